section
/-! A SMALL MACHINE over numbered cells (my own): it runs the methods' own decoded instructions over a memory of ints and references by cell number; what it answers is what the JVM does (part 22). -/
abbrev mRf : Type := Option (Nat × Nat)
abbrev mAV : Type := Int32 ⊕ (mRf ⊕ Int64)
abbrev mLV : Type := Int32 ⊕ mRf
/-- how many cells of a kind; the ints; the references; the longs (kind, number, place) -/
abbrev mMm : Type := (Nat → Nat) × (Nat → Nat → Nat → Int32) × (Nat → Nat → Nat → mRf) × (Nat → Nat → Nat → Int64)
/-- pc, instruction, next pc, three numbers (kind, place, sort; target; callee), a constant -/
abbrev mEn : Type := Nat × ClassFile.Instr × Nat × Nat × Nat × Nat × Int32
/-- an answer: returned (with a value or without), or threw (which class), and the memory behind it -/
abbrev mRs : Type := Option ((Option mLV ⊕ Nat) × mMm)
def mq_up {α : Type} (f : Nat → Nat → Nat → α) (k i j : Nat) (v : α) : Nat → Nat → Nat → α := fun k' i' j' => if k' = k ∧ i' = i ∧ j' = j then v else f k' i' j'
def mq_cr {α : Type} (f : Nat → Nat → Nat → α) (k i : Nat) (v : α) : Nat → Nat → Nat → α := fun k' i' j' => if k' = k ∧ i' = i then v else f k' i' j'
def mq_lk (pc : Nat) : List mEn → Option mEn
  | [] => none
  | e :: r => if e.1 = pc then some e else mq_lk pc r
def mq_gl (i : Nat) : List (Nat × mLV) → Option mLV
  | [] => none
  | q :: r => if q.1 = i then some q.2 else mq_gl i r
def mq_sl (i : Nat) (v : mLV) : List (Nat × mLV) → List (Nat × mLV)
  | [] => [(i, v)]
  | q :: r => if q.1 = i then (i, v) :: r.filter (fun q => !(q.1 == i)) else q :: mq_sl i v r
def mq_en : Nat → List mLV → List (Nat × mLV)
  | _, [] => []
  | i, v :: r => (i, v) :: mq_en (i + 1) r
/-- n arguments off the stack, the first one first -/
def mq_pop : Nat → List mAV → List mLV → Option (List mLV × List mAV)
  | 0, st, acc => some (acc, st)
  | n + 1, .inl x :: r, acc => mq_pop n r (.inl x :: acc)
  | n + 1, .inr (.inl q) :: r, acc => mq_pop n r (.inr q :: acc)
  | _ + 1, _, _ => none
def mq_toA : mLV → mAV
  | .inl x => .inl x
  | .inr q => .inr (.inl q)
def mq_psh : Option mLV → List mAV → List mAV
  | none, st => st
  | some v, st => mq_toA v :: st
def mq_c1 : mAV → Bool
  | .inl _ => true
  | .inr (.inl _) => true
  | .inr (.inr _) => false
def mq_swt (x : Int32) (d : Nat) : List (Int32 × Nat) → Nat
  | [] => d
  | q :: r => if x = q.1 then q.2 else mq_swt x d r
def mq_new (M : mMm) (k : Nat) : mMm := (fun k' => if k' = k then M.1 k + 1 else M.1 k', mq_cr M.2.1 k (M.1 k) 0, mq_cr M.2.2.1 k (M.1 k) none, mq_cr M.2.2.2 k (M.1 k) 0)
/-- ki: of a kind: its sort (0 object, 1 ints, 2 longs, 3 references, 4 bytes, 5 booleans, 8 an exception, 9 the script), its class, how many places; sw: a switch's pairs; hn: a call's handlers; mx: a method's cells and slots; call: the callees; code: the method's own; lim: its own cells and slots; scr: the script -/
def mq_st (ki : Nat → Nat × Nat × Nat) (sw : Nat → List (Int32 × Nat)) (hn : Nat → Nat → Option Nat) (mx : Nat → Nat × Nat × Nat) (call : Nat → List mLV → mMm → mRs) (code : List mEn) (lim : Nat × Nat × Nat) (scr : Option (Nat × (Nat → Int32))) (go : Nat → List (Nat × mLV) → List mAV → mMm → Nat → Nat → mRs) (pc : Nat) (lv : List (Nat × mLV)) (st : List mAV) (M : mMm) (cs ss : Nat) : mRs :=
  match mq_lk pc code with
  | none => none
  | some (_, ins, nx, a, b, c, v) =>
    match ins with
    | .iconst _ => go nx lv (.inl v :: st) M cs ss
    | .bipush _ => go nx lv (.inl v :: st) M cs ss
    | .sipush _ => go nx lv (.inl v :: st) M cs ss
    | .ldc _ => go nx lv (.inl v :: st) M cs ss
    | .aconst_null => go nx lv (.inr (.inl none) :: st) M cs ss
    | .iload i => match mq_gl i lv with
      | some (.inl x) => go nx lv (.inl x :: st) M cs ss
      | _ => none
    | .iload_n i => match mq_gl i.val lv with
      | some (.inl x) => go nx lv (.inl x :: st) M cs ss
      | _ => none
    | .aload i => match mq_gl i lv with
      | some (.inr x) => go nx lv (.inr (.inl x) :: st) M cs ss
      | _ => none
    | .aload_n i => match mq_gl i.val lv with
      | some (.inr x) => go nx lv (.inr (.inl x) :: st) M cs ss
      | _ => none
    | .istore i => match st with
      | .inl x :: r => go nx (mq_sl i (.inl x) lv) r M cs ss
      | _ => none
    | .istore_n i => match st with
      | .inl x :: r => go nx (mq_sl i.val (.inl x) lv) r M cs ss
      | _ => none
    | .astore i => match st with
      | .inr (.inl x) :: r => go nx (mq_sl i (.inr x) lv) r M cs ss
      | _ => none
    | .astore_n i => match st with
      | .inr (.inl x) :: r => go nx (mq_sl i.val (.inr x) lv) r M cs ss
      | _ => none
    | .iinc i _ => match mq_gl i lv with
      | some (.inl x) => go nx (mq_sl i (.inl (x + v)) lv) st M cs ss
      | _ => none
    | .iadd => match st with
      | .inl y :: .inl x :: r => go nx lv (.inl (x + y) :: r) M cs ss
      | _ => none
    | .isub => match st with
      | .inl y :: .inl x :: r => go nx lv (.inl (x - y) :: r) M cs ss
      | _ => none
    | .imul => match st with
      | .inl y :: .inl x :: r => go nx lv (.inl (x * y) :: r) M cs ss
      | _ => none
    | .iand => match st with
      | .inl y :: .inl x :: r => go nx lv (.inl (x &&& y) :: r) M cs ss
      | _ => none
    | .ior => match st with
      | .inl y :: .inl x :: r => go nx lv (.inl (x ||| y) :: r) M cs ss
      | _ => none
    | .ixor => match st with
      | .inl y :: .inl x :: r => go nx lv (.inl (x ^^^ y) :: r) M cs ss
      | _ => none
    | .ishl => match st with
      | .inl y :: .inl x :: r => go nx lv (.inl (x <<< (y &&& 31)) :: r) M cs ss
      | _ => none
    | .ishr => match st with
      | .inl y :: .inl x :: r => go nx lv (.inl (x >>> (y &&& 31)) :: r) M cs ss
      | _ => none
    | .iushr => match st with
      | .inl y :: .inl x :: r => go nx lv (.inl ((x.toUInt32 >>> (y.toUInt32 &&& Int32.toUInt32 31)).toInt32) :: r) M cs ss
      | _ => none
    | .irem => match st with
      | .inl y :: .inl x :: r => if y = 0 then none else go nx lv (.inl (x - x / y * y) :: r) M cs ss
      | _ => none
    | .idiv => match st with
      | .inl y :: .inl x :: r => if y = 0 then none else go nx lv (.inl (x / y) :: r) M cs ss
      | _ => none
    | .ineg => match st with
      | .inl x :: r => go nx lv (.inl (-x) :: r) M cs ss
      | _ => none
    | .i2b => match st with
      | .inl x :: r => go nx lv (.inl x.toInt8.toInt32 :: r) M cs ss
      | _ => none
    | .i2s => match st with
      | .inl x :: r => go nx lv (.inl x.toInt16.toInt32 :: r) M cs ss
      | _ => none
    | .i2c => match st with
      | .inl x :: r => go nx lv (.inl (x.toUInt32 % 65536).toInt32 :: r) M cs ss
      | _ => none
    | .i2l => match st with
      | .inl x :: r => go nx lv (.inr (.inr x.toInt64) :: r) M cs ss
      | _ => none
    | .ldc2_w _ => go nx lv (.inr (.inr (Int64.ofNat a)) :: st) M cs ss
    | .land => match st with
      | .inr (.inr y) :: .inr (.inr x) :: r => go nx lv (.inr (.inr (x &&& y)) :: r) M cs ss
      | _ => none
    | .lcmp => match st with
      | .inr (.inr y) :: .inr (.inr x) :: r => go nx lv (.inl (lg_cmp x y) :: r) M cs ss
      | _ => none
    | .dup => match st with
      | x :: r => match mq_c1 x with
        | true => go nx lv (x :: x :: r) M cs ss
        | false => none
      | _ => none
    | .pop => match st with
      | x :: r => match mq_c1 x with
        | true => go nx lv r M cs ss
        | false => none
      | _ => none
    | .dup_x1 => match st with
      | x :: y :: r => match mq_c1 x, mq_c1 y with
        | true, true => go nx lv (x :: y :: x :: r) M cs ss
        | _, _ => none
      | _ => none
    | .dup_x2 => match st with
      | x :: y :: z :: r => match mq_c1 x, mq_c1 y, mq_c1 z with
        | true, true, true => go nx lv (x :: y :: z :: x :: r) M cs ss
        | _, _, _ => none
      | _ => none
    | .dup2 => match st with
      | x :: y :: r => match mq_c1 x, mq_c1 y with
        | true, true => go nx lv (x :: y :: x :: y :: r) M cs ss
        | _, _ => none
      | _ => none
    | .goto _ => go a lv st M cs ss
    | .ifCond cnd _ => match st with
      | .inl x :: r => match cnd with
        | .eq => if x = 0 then go a lv r M cs ss else go nx lv r M cs ss
        | .ne => if x = 0 then go nx lv r M cs ss else go a lv r M cs ss
        | .lt => if x < 0 then go a lv r M cs ss else go nx lv r M cs ss
        | .ge => if x < 0 then go nx lv r M cs ss else go a lv r M cs ss
        | .gt => if 0 < x then go a lv r M cs ss else go nx lv r M cs ss
        | .le => if 0 < x then go nx lv r M cs ss else go a lv r M cs ss
      | _ => none
    | .if_icmp cnd _ => match st with
      | .inl y :: .inl x :: r => match cnd with
        | .eq => if x = y then go a lv r M cs ss else go nx lv r M cs ss
        | .ne => if x = y then go nx lv r M cs ss else go a lv r M cs ss
        | .lt => if x < y then go a lv r M cs ss else go nx lv r M cs ss
        | .ge => if x < y then go nx lv r M cs ss else go a lv r M cs ss
        | .gt => if y < x then go a lv r M cs ss else go nx lv r M cs ss
        | .le => if y < x then go nx lv r M cs ss else go a lv r M cs ss
      | _ => none
    | .ifnull _ => match st with
      | .inr (.inl none) :: r => go a lv r M cs ss
      | .inr (.inl (some _)) :: r => go nx lv r M cs ss
      | _ => none
    | .ifnonnull _ => match st with
      | .inr (.inl none) :: r => go nx lv r M cs ss
      | .inr (.inl (some _)) :: r => go a lv r M cs ss
      | _ => none
    | .tableswitch _ _ _ _ => match st with
      | .inl x :: r => go (mq_swt x a (sw b)) lv r M cs ss
      | _ => none
    | .lookupswitch _ _ => match st with
      | .inl x :: r => go (mq_swt x a (sw b)) lv r M cs ss
      | _ => none
    | .getfield _ => match st with
      | .inr (.inl (some q)) :: r => if q.1 = a then (match c with
        | 1 => go nx lv (.inr (.inl (M.2.2.1 q.1 q.2 b)) :: r) M cs ss
        | _ => go nx lv (.inl (M.2.1 q.1 q.2 b) :: r) M cs ss) else none
      | _ => none
    | .putfield _ => match st with
      | .inl x :: .inr (.inl (some q)) :: r => if q.1 = a then (match c with
        | 0 => go nx lv r (M.1, mq_up M.2.1 q.1 q.2 b x, M.2.2) cs ss
        | 2 => if x = 0 ∨ x = 1 then go nx lv r (M.1, mq_up M.2.1 q.1 q.2 b x, M.2.2) cs ss else none
        | _ => none) else none
      | .inr (.inl y) :: .inr (.inl (some q)) :: r => if q.1 = a then (match c with
        | 1 => if y = some (999, 0) then none else go nx lv r (M.1, M.2.1, mq_up M.2.2.1 q.1 q.2 b y, M.2.2.2) cs ss
        | _ => none) else none
      | _ => none
    | .arraylength => match st with
      | .inr (.inl (some q)) :: r => (match (ki q.1).1 with
        | 1 => go nx lv (.inl (Int32.ofNat (ki q.1).2.2) :: r) M cs ss
        | 3 => go nx lv (.inl (Int32.ofNat (ki q.1).2.2) :: r) M cs ss
        | 9 => if q = (999, 0) then (match scr with
          | some w => go nx lv (.inl (Int32.ofNat w.1) :: r) M cs ss
          | none => none) else none
        | _ => none)
      | _ => none
    | .iaload => match st with
      | .inl i :: .inr (.inl (some q)) :: r => (match (ki q.1).1 with
        | 1 => if i < 0 ∨ (ki q.1).2.2 ≤ i.toNatClampNeg then none else go nx lv (.inl (M.2.1 q.1 q.2 i.toNatClampNeg) :: r) M cs ss
        | 9 => if q = (999, 0) then (match scr with
          | some w => if i < 0 ∨ w.1 ≤ i.toNatClampNeg then none else go nx lv (.inl (w.2 i.toNatClampNeg) :: r) M cs ss
          | none => none) else none
        | _ => none)
      | _ => none
    | .iastore => match st with
      | .inl x :: .inl i :: .inr (.inl (some q)) :: r => (match (ki q.1).1 with
        | 1 => if i < 0 ∨ (ki q.1).2.2 ≤ i.toNatClampNeg then none else go nx lv r (M.1, mq_up M.2.1 q.1 q.2 i.toNatClampNeg x, M.2.2) cs ss
        | _ => none)
      | _ => none
    | .baload => match st with
      | .inl i :: .inr (.inl (some q)) :: r => (match (ki q.1).1 with
        | 4 => if i < 0 ∨ (ki q.1).2.2 ≤ i.toNatClampNeg then none else go nx lv (.inl (M.2.1 q.1 q.2 i.toNatClampNeg) :: r) M cs ss
        | 5 => if i < 0 ∨ (ki q.1).2.2 ≤ i.toNatClampNeg then none else go nx lv (.inl (M.2.1 q.1 q.2 i.toNatClampNeg) :: r) M cs ss
        | _ => none)
      | _ => none
    | .bastore => match st with
      | .inl x :: .inl i :: .inr (.inl (some q)) :: r => (match (ki q.1).1 with
        | 4 => if i < 0 ∨ (ki q.1).2.2 ≤ i.toNatClampNeg then none else go nx lv r (M.1, mq_up M.2.1 q.1 q.2 i.toNatClampNeg x.toInt8.toInt32, M.2.2) cs ss
        | 5 => if i < 0 ∨ (ki q.1).2.2 ≤ i.toNatClampNeg then none else if x = 0 ∨ x = 1 then go nx lv r (M.1, mq_up M.2.1 q.1 q.2 i.toNatClampNeg x, M.2.2) cs ss else none
        | _ => none)
      | _ => none
    | .laload => match st with
      | .inl i :: .inr (.inl (some q)) :: r => (match (ki q.1).1 with
        | 2 => if i < 0 ∨ (ki q.1).2.2 ≤ i.toNatClampNeg then none else go nx lv (.inr (.inr (M.2.2.2 q.1 q.2 i.toNatClampNeg)) :: r) M cs ss
        | _ => none)
      | _ => none
    | .lastore => match st with
      | .inr (.inr x) :: .inl i :: .inr (.inl (some q)) :: r => (match (ki q.1).1 with
        | 2 => if i < 0 ∨ (ki q.1).2.2 ≤ i.toNatClampNeg then none else go nx lv r (M.1, M.2.1, M.2.2.1, mq_up M.2.2.2 q.1 q.2 i.toNatClampNeg x) cs ss
        | _ => none)
      | _ => none
    | .aaload => match st with
      | .inl i :: .inr (.inl (some q)) :: r => (match (ki q.1).1 with
        | 3 => if i < 0 ∨ (ki q.1).2.2 ≤ i.toNatClampNeg then none else go nx lv (.inr (.inl (M.2.2.1 q.1 q.2 i.toNatClampNeg)) :: r) M cs ss
        | _ => none)
      | _ => none
    | .aastore => match st with
      | .inr (.inl (some y)) :: .inl i :: .inr (.inl (some q)) :: r => (match (ki q.1).1 with
        | 3 => if i < 0 ∨ (ki q.1).2.2 ≤ i.toNatClampNeg then none else if (ki y.1).1 = 0 ∧ (ki y.1).2.1 = (ki q.1).2.1 then go nx lv r (M.1, M.2.1, mq_up M.2.2.1 q.1 q.2 i.toNatClampNeg (some y), M.2.2.2) cs ss else none
        | _ => none)
      | _ => none
    | .new _ => if cs + 1 ≤ lim.1 ∧ ss + (ki a).2.2 ≤ lim.2.1 then (match (ki a).1 with
        | 0 => go nx lv (.inr (.inl (some (a, M.1 a))) :: st) (mq_new M a) (cs + 1) (ss + (ki a).2.2)
        | 8 => (match st with
          | [] => some (.inr (ki a).2.1, M)
          | _ => none)
        | _ => none) else none
    | .newarray _ => match st with
      | .inl n :: r => if n = Int32.ofNat (ki a).2.2 ∧ cs + 1 ≤ lim.1 ∧ ss + (ki a).2.2 ≤ lim.2.1 then go nx lv (.inr (.inl (some (a, M.1 a))) :: r) (mq_new M a) (cs + 1) (ss + (ki a).2.2) else none
      | _ => none
    | .anewarray _ => match st with
      | .inl n :: r => if n = Int32.ofNat (ki a).2.2 ∧ cs + 1 ≤ lim.1 ∧ ss + (ki a).2.2 ≤ lim.2.1 then go nx lv (.inr (.inl (some (a, M.1 a))) :: r) (mq_new M a) (cs + 1) (ss + (ki a).2.2) else none
      | _ => none
    | .invokespecial _ => match mq_pop b st [] with
      | some (.inr (some q) :: as, r) => if r.length ≤ 4 then (match a with
        | 0 => go nx lv r M cs ss
        | a + 1 => if cs + (mx a).1 ≤ lim.1 ∧ ss + (mx a).2.1 ≤ lim.2.1 then (match call a (.inr (some q) :: as) M with
          | some (.inl w, M') => go nx lv (mq_psh w r) M' (cs + (mx a).1) (ss + (mx a).2.1)
          | _ => none) else none) else none
      | _ => none
    | .invokevirtual _ => match mq_pop b st [] with
      | some (.inr (some q) :: as, r) => if (ki q.1).1 = 0 ∧ (ki q.1).2.1 = (mx a).2.2 ∧ r.length ≤ 4 ∧ cs + (mx a).1 ≤ lim.1 ∧ ss + (mx a).2.1 ≤ lim.2.1 then (match call a (.inr (some q) :: as) M with
          | some (.inl w, M') => go nx lv (mq_psh w r) M' (cs + (mx a).1) (ss + (mx a).2.1)
          | some (.inr x, M') => (match hn c x with
            | some hp => go hp [] [] M' (cs + (mx a).1) (ss + (mx a).2.1)
            | none => none)
          | none => none) else none
      | _ => none
    | .invokestatic _ => match c with
      | 7 => (match st with
        | .inl y :: .inl x :: r => if r.length ≤ 4 then go nx lv (.inl (if y < x then y else x) :: r) M cs ss else none
        | _ => none)
      | _ => (match mq_pop b st [] with
        | some (as, r) => if r.length ≤ 4 ∧ cs + (mx a).1 ≤ lim.1 ∧ ss + (mx a).2.1 ≤ lim.2.1 then (match call a as M with
          | some (.inl w, M') => go nx lv (mq_psh w r) M' (cs + (mx a).1) (ss + (mx a).2.1)
          | _ => none) else none
        | none => none)
    | .ireturn => match st with
      | [.inl x] => (match c with
        | 2 => if x = 0 ∨ x = 1 then some (.inl (some (.inl x)), M) else none
        | _ => some (.inl (some (.inl x)), M))
      | _ => none
    | .areturn => match st with
      | [.inr (.inl q)] => some (.inl (some (.inr q)), M)
      | _ => none
    | .return_ => match st with
      | [] => some (.inl none, M)
      | _ => none
    | _ => none
def mq_loop (ki : Nat → Nat × Nat × Nat) (sw : Nat → List (Int32 × Nat)) (hn : Nat → Nat → Option Nat) (mx : Nat → Nat × Nat × Nat) (call : Nat → List mLV → mMm → mRs) (code : List mEn) (lim : Nat × Nat × Nat) (scr : Option (Nat × (Nat → Int32))) : Nat → Nat → List (Nat × mLV) → List mAV → mMm → Nat → Nat → mRs
  | 0, _, _, _, _, _, _ => none
  | f + 1, pc, lv, st, M, cs, ss => mq_st ki sw hn mx call code lim scr (mq_loop ki sw hn mx call code lim scr f) pc lv st M cs ss
/-- a method at depth d, by its number; ml: its locals -/
def mq_ex (ki : Nat → Nat × Nat × Nat) (sw : Nat → List (Int32 × Nat)) (hn : Nat → Nat → Option Nat) (mx : Nat → Nat × Nat × Nat) (ml : Nat → Nat) (cd : Nat → List mEn) (F : Nat) : Nat → Nat → List mLV → mMm → mRs
  | 0, _, _, _ => none
  | d + 1, mi, as, M => if as.length ≤ ml mi then mq_loop ki sw hn mx (mq_ex ki sw hn mx ml cd F d) (cd mi) (mx mi) none F 0 (mq_en 0 as) [] M 0 0 else none
end
section
/-! The machine's memory as a world of the kit: refs lists the cells there are, ad says where each lies. -/
/-- the kinds; which places of a class are references; the array classes -/
abbrev mEv : Type := (Nat → Nat × Nat × Nat) × (Nat → Nat → Bool) × (Nat → ClassId)
def mq_sr : Nat × Nat := (999, 0)
def mq_cl (ad : Nat × Nat → Nat) : mLV → Value
  | .inl x => .int x
  | .inr q => va_rf (q.map ad)
def mq_cv (ad : Nat × Nat → Nat) : mAV → Value
  | .inl x => .int x
  | .inr (.inl q) => va_rf (q.map ad)
  | .inr (.inr x) => .long x
def mq_fv (E : mEv) (ad : Nat × Nat → Nat) (M : mMm) (r : Nat × Nat) (j : Nat) : Value := if E.2.1 (E.1 r.1).2.1 j then va_rf ((M.2.2.1 r.1 r.2 j).map ad) else .int (M.2.1 r.1 r.2 j)
def mq_ce (E : mEv) (ad : Nat × Nat → Nat) (M : mMm) (r : Nat × Nat) : va_E := match (E.1 r.1).1 with
  | 0 => .inr ((E.1 r.1).2.1, (List.range (E.1 r.1).2.2).map (mq_fv E ad M r))
  | 2 => .inl (E.2.2 2, ((E.1 r.1).2.2, .inr (.inl (M.2.2.2 r.1 r.2))))
  | 3 => .inl (E.2.2 (100 + (E.1 r.1).2.1), ((E.1 r.1).2.2, .inr (.inr (.inr (.inr (fun j => (M.2.2.1 r.1 r.2 j).map ad))))))
  | t => .inl (E.2.2 t, ((E.1 r.1).2.2, .inl (M.2.1 r.1 r.2)))
def mq_W (E : mEv) (ad : Nat × Nat → Nat) (refs : List (Nat × Nat)) (M : mMm) : va_W := refs.map (fun r => (ad r, mq_ce E ad M r))
section MQW
variable {E : mEv} {ad ad' : Nat × Nat → Nat} {refs : List (Nat × Nat)} {M M' : mMm} {r r' : Nat × Nat} {i j : Nat} {A : Nat → Prop} {D : va_G} {cl : List vw_C} {H : Heap}
theorem mq_W_at (h : refs[j]? = some r) : (mq_W E ad refs M)[j]? = some (ad r, mq_ce E ad M r) := by
  rw [mq_W, List.getElem?_map, h]; rfl
theorem mq_W_inv {q : Nat × va_E} (h : (mq_W E ad refs M)[j]? = some q) : ∃ r, refs[j]? = some r ∧ q = (ad r, mq_ce E ad M r) := by
  rw [mq_W, List.getElem?_map] at h
  cases hr : refs[j]? with
  | none => rw [hr] at h; cases h
  | some r => rw [hr] at h; exact ⟨r, rfl, (Option.some.inj h).symm⟩
theorem mq_inj (hD : va_D A (mq_W E ad refs M)) (hi : refs[i]? = some r) (hj : refs[j]? = some r') (h : ad r = ad r') : i = j := hD.1 i j _ _ (mq_W_at hi) (mq_W_at hj) h
theorem mq_injr (hD : va_D A (mq_W E ad refs M)) (hi : r ∈ refs) (hj : r' ∈ refs) (h : ad r = ad r') : r = r' := by
  obtain ⟨i, h1⟩ := List.getElem?_of_mem hi
  obtain ⟨j, h2⟩ := List.getElem?_of_mem hj
  have e := mq_inj hD h1 h2 h
  subst e
  exact Option.some.inj (h1.symm.trans h2)
theorem mq_W_in (hD : va_D A (mq_W E ad refs M)) (h : r ∈ refs) : A (ad r) := by
  obtain ⟨i, h1⟩ := List.getElem?_of_mem h
  exact hD.2 i _ (mq_W_at h1)
theorem mq_W_set {e' : va_E} (hD : va_D A (mq_W E ad refs M)) (hj : refs[j]? = some r) (ho : ∀ r', r' ≠ r → mq_ce E ad M' r' = mq_ce E ad M r') (he : mq_ce E ad M' r = e') : (mq_W E ad refs M).set j (ad r, e') = mq_W E ad refs M' := by
  apply List.ext_getElem?
  intro i
  by_cases hij : i = j
  · subst hij
    rw [List.getElem?_set_self (List.getElem?_eq_some_iff.mp (mq_W_at (E := E) (ad := ad) (M := M) hj)).1, mq_W_at hj, he]
  · rw [List.getElem?_set_ne (Ne.symm hij)]
    cases hi : refs[i]? with
    | none => simp only [mq_W, List.getElem?_map, hi, Option.map_none]
    | some r' =>
      have hne : r' ≠ r := fun q => hij (mq_inj hD hi hj (by rw [q]))
      rw [mq_W_at hi, mq_W_at hi, ho r' hne]
theorem mq_up_ne {α : Type} {f : Nat → Nat → Nat → α} {k i j : Nat} {v : α} (h : r' ≠ (k, i)) : mq_up f k i j v r'.1 r'.2 = f r'.1 r'.2 := by
  funext j'
  have hn : ¬ (r'.1 = k ∧ r'.2 = i ∧ j' = j) := fun q => h (Prod.ext q.1 q.2.1)
  simp only [mq_up, if_neg hn]
theorem mq_up_at {α : Type} {f : Nat → Nat → Nat → α} {k i j : Nat} {v : α} : mq_up f k i j v k i = fun j' => if j' = j then v else f k i j' := by
  funext j'
  simp [mq_up]
theorem mq_cr_ne {α : Type} {f : Nat → Nat → Nat → α} {k i : Nat} {v : α} (h : r' ≠ (k, i)) : mq_cr f k i v r'.1 r'.2 = f r'.1 r'.2 := by
  funext j'
  have hn : ¬ (r'.1 = k ∧ r'.2 = i) := fun q => h (Prod.ext q.1 q.2)
  simp only [mq_cr, if_neg hn]
theorem mq_cr_at {α : Type} {f : Nat → Nat → Nat → α} {k i : Nat} {v : α} : mq_cr f k i v k i = fun _ => v := by
  funext j'
  simp [mq_cr]
theorem mq_ce_eq (h1 : M'.2.1 r.1 r.2 = M.2.1 r.1 r.2) (h2 : M'.2.2.1 r.1 r.2 = M.2.2.1 r.1 r.2) (h3 : M'.2.2.2 r.1 r.2 = M.2.2.2 r.1 r.2) : mq_ce E ad M' r = mq_ce E ad M r := by
  have h0 : mq_fv E ad M' r = mq_fv E ad M r := by
    funext j
    unfold mq_fv
    rw [h1, h2]
  unfold mq_ce
  rw [h0, h1, h2, h3]
theorem mq_range_set {N b : Nat} {f : Nat → Value} {v : Value} (hb : b < N) : ((List.range N).map f).set b v = (List.range N).map (fun j => if j = b then v else f j) := by
  apply List.ext_getElem?
  intro i
  by_cases hij : i = b
  · subst hij
    rw [List.getElem?_set_self (by simpa using hb), List.getElem?_map, List.getElem?_range hb]
    simp
  · rw [List.getElem?_set_ne (Ne.symm hij)]
    by_cases hi : i < N
    · rw [List.getElem?_map, List.getElem?_map, List.getElem?_range hi]
      simp [hij]
    · rw [List.getElem?_eq_none (by simpa using hi), List.getElem?_eq_none (by simpa using hi)]
theorem mq_range_at {N b : Nat} {f : Nat → Value} (hb : b < N) : ((List.range N).map f)[b]? = some (f b) := by
  rw [List.getElem?_map, List.getElem?_range hb]; rfl
theorem mq_arrV {cA : ClassId} {n : Nat} {f g : Nat → Value} (h : ∀ j, j < n → f j = g j) : arrV cA n f = arrV cA n g := by
  have e : (fun j : Fin n => f j.val) = fun j : Fin n => g j.val := funext fun j => h j.val j.isLt
  unfold arrV
  rw [e]
/-- a cell is the same where its places are -/
theorem mq_at_congr {a : Nat} (h1 : ∀ j, j < (E.1 r.1).2.2 → M'.2.1 r.1 r.2 j = M.2.1 r.1 r.2 j) (h2 : ∀ j, j < (E.1 r.1).2.2 → (M'.2.2.1 r.1 r.2 j).map ad' = (M.2.2.1 r.1 r.2 j).map ad) (h3 : ∀ j, j < (E.1 r.1).2.2 → M'.2.2.2 r.1 r.2 j = M.2.2.2 r.1 r.2 j) (h : va_at D cl (a, mq_ce E ad M r) H) : va_at D cl (a, mq_ce E ad' M' r) H := by
  unfold mq_ce at h ⊢
  split at h
  · have e : (List.range (E.1 r.1).2.2).map (mq_fv E ad' M' r) = (List.range (E.1 r.1).2.2).map (mq_fv E ad M r) := by
      apply List.map_congr_left
      intro j hj
      have hj := List.mem_range.mp hj
      unfold mq_fv
      rw [h1 j hj, h2 j hj]
    rw [e]
    exact h
  · have h : H[a]? = some (vp_cell _ _) := h
    show H[a]? = some (vp_cell _ _)
    rw [h, vp_cell_l, vp_cell_l]
    exact congrArg some (mq_arrV fun j hj => by rw [h3 j hj])
  · have h : H[a]? = some (vp_cell _ _) := h
    show H[a]? = some (vp_cell _ _)
    rw [h, vp_cell_q, vp_cell_q]
    exact congrArg some (mq_arrV fun j hj => by rw [h2 j hj])
  · have h : H[a]? = some (vp_cell _ _) := h
    show H[a]? = some (vp_cell _ _)
    rw [h, vp_cell_i, vp_cell_i]
    exact congrArg some (mq_arrV fun j hj => by rw [h1 j hj])
theorem mq_D_same {w w' : va_W} (hD : va_D A w) (h : w'.map (·.1) = w.map (·.1)) : va_D A w' := by
  have key : ∀ (k : Nat) (q : Nat × va_E), w'[k]? = some q → ∃ q0, w[k]? = some q0 ∧ q0.1 = q.1 := by
    intro k q hk
    have h1 : (w'.map (·.1))[k]? = some q.1 := by rw [List.getElem?_map, hk]; rfl
    rw [h, List.getElem?_map] at h1
    cases h2 : w[k]? with
    | none => rw [h2] at h1; cases h1
    | some q0 => rw [h2] at h1; exact ⟨q0, rfl, Option.some.inj h1⟩
  refine ⟨fun i j x y hi hj hxy => ?_, fun k q hk => ?_⟩
  · obtain ⟨x0, a1, a2⟩ := key i x hi
    obtain ⟨y0, b1, b2⟩ := key j y hj
    exact hD.1 i j x0 y0 a1 b1 (a2.trans (hxy.trans b2.symm))
  · obtain ⟨q0, a1, a2⟩ := key k q hk
    rw [← a2]
    exact hD.2 k q0 a1
theorem mq_W_fst : (mq_W E ad refs M).map (·.1) = refs.map ad := by
  rw [mq_W, List.map_map]; rfl
end MQW
end
section
/-! One row of the machine, one row of the JVM. -/
/-- what the memory keeps: which cells there are, and where its references lead -/
def mq_V (E : mEv) (M : mMm) (refs : List (Nat × Nat)) : Prop := (∀ r, r ∈ refs ↔ r.2 < M.1 r.1) ∧ ∀ r, r ∈ refs → ∀ j, j < (E.1 r.1).2.2 → ∀ r', M.2.2.1 r.1 r.2 j = some r' → r' ∈ refs
def mq_vr (refs : List (Nat × Nat)) (r : Nat × Nat) : Prop := r ∈ refs ∨ r = mq_sr
def mq_vs (refs : List (Nat × Nat)) (st : List mAV) : Prop := ∀ r, (.inr (.inl (some r)) : mAV) ∈ st → mq_vr refs r
def mq_vl (refs : List (Nat × Nat)) (lv : List (Nat × mLV)) : Prop := ∀ i r, (i, (.inr (some r) : mLV)) ∈ lv → mq_vr refs r
def mq_C (p : Program) (s : State) (m : MethodId) (args : Array Value) (c : Code) (cc : ByteArray) (nL : Nat) (own : String) (Ts : List Cond) (D : va_G) (cl : List vw_C) (tys : List (ClassId × FieldType)) (A : Nat → Prop) (X : State → Prop) : Prop :=
  p.tables.exec = Jvm.exec ∧ c.code = cc ∧ c.maxLocals = nL ∧ s.vm.findClass own = some m.cls ∧ (∀ w ∈ Ts, w.before args s = true) ∧ va_K D cl tys s ∧ (∀ q, s.heap.size ≤ q → A q) ∧ X s ∧ ∀ u U : State, u.WarmedH U.vm → X u → X U
def mq_B (E : mEv) (D : va_G) (cl : List vw_C) (A : Nat → Prop) (s : State) (ad0 : Nat × Nat → Nat) (refs0 : List (Nat × Nat)) (ad : Nat × Nat → Nat) (refs : List (Nat × Nat)) (M : mMm) (H : Heap) (locs : List Loc) : Prop :=
  va_P D cl (mq_W E ad refs M) H ∧ va_D A (mq_W E ad refs M) ∧ va_S A s.heap H locs ∧ mq_V E M refs ∧ (∀ r, r ∈ refs0 → r ∈ refs) ∧ ∀ r, mq_vr refs0 r → ad r = ad0 r
def mq_lm (ad : Nat × Nat → Nat) (lv : List (Nat × mLV)) : List (Nat × Value) := lv.map fun q => (q.1, mq_cl ad q.2)
def mq_G (p : Program) (l : Launch) (e : Env) (R : Room) (s : State) (m : MethodId) (args : Array Value) (below : List Frame) (meth : Method) (c : Code) (Q : State → Prop) (nL : Nat) (E : mEv) (D : va_G) (cl : List vw_C) (A : Nat → Prop) (ad0 : Nat × Nat → Nat) (refs0 : List (Nat × Nat)) (pc : Nat) (lv : List (Nat × mLV)) (st : List mAV) (M : mMm) (cs ss : Nat) : Prop :=
  ∀ (H : Heap) (locs : List Loc) (ls : Array Slot) (ad : Nat × Nat → Nat) (refs : List (Nat × Nat)), mq_B E D cl A s ad0 refs0 ad refs M H locs → lv_has ls nL (mq_lm ad lv) → mq_vl refs lv → mq_vs refs st → W p l e R s m args below meth c H locs cs ss Q (F0 m pc ls (st.map (mq_cv ad)))
theorem mq_cl_cat (ad : Nat × Nat → Nat) (v : mLV) : (mq_cl ad v).category = 1 := by
  rcases v with x | (_ | q) <;> rfl
theorem mq_cv_cat (ad : Nat × Nat → Nat) (v : mAV) (h : mq_c1 v = true) : (mq_cv ad v).category = 1 := by
  rcases v with x | ((_ | q) | x)
  · rfl
  · rfl
  · rfl
  · cases h
theorem mq_cv_toA (ad : Nat × Nat → Nat) (v : mLV) : mq_cv ad (mq_toA v) = mq_cl ad v := by
  rcases v with x | q <;> rfl
theorem mq_sl_mem {i : Nat} {v : mLV} {q : Nat × mLV} : ∀ {lv : List (Nat × mLV)}, q ∈ mq_sl i v lv → q = (i, v) ∨ (q ∈ lv ∧ ¬ q.1 = i)
  | [], h => Or.inl (List.mem_singleton.mp h)
  | w :: r, h => by
    unfold mq_sl at h
    split at h
    · rcases List.mem_cons.mp h with h | h
      · exact Or.inl h
      · obtain ⟨h1, h2⟩ := List.mem_filter.mp h
        exact Or.inr ⟨List.mem_cons_of_mem _ h1, by simpa using h2⟩
    · rename_i hw
      rcases List.mem_cons.mp h with h | h
      · exact Or.inr ⟨h ▸ List.mem_cons_self, by rw [h]; exact hw⟩
      · rcases mq_sl_mem h with h | h
        · exact Or.inl h
        · exact Or.inr ⟨List.mem_cons_of_mem _ h.1, h.2⟩
theorem mq_lv_sl {ad : Nat × Nat → Nat} {lv : List (Nat × mLV)} {i nL : Nat} {v : mLV} {ls : Array Slot} (h : lv_has ls nL ((i, mq_cl ad v) :: (mq_lm ad lv).filter (fun q => !(q.1 == i) && !(q.1 + 1 == i && q.2.category == 2)))) : lv_has ls nL (mq_lm ad (mq_sl i v lv)) := by
  refine ⟨h.1, h.2.1, fun q hq => h.2.2 q ?_⟩
  obtain ⟨w, hw, rfl⟩ := List.mem_map.mp hq
  rcases mq_sl_mem hw with rfl | ⟨h1, h2⟩
  · exact List.mem_cons_self
  · refine List.mem_cons_of_mem _ (List.mem_filter.mpr ⟨List.mem_map.mpr ⟨w, h1, rfl⟩, ?_⟩)
    have h3 : (w.1 == i) = false := by simpa using h2
    simp [mq_cl_cat, h3]
theorem mq_gl_mem {i : Nat} {v : mLV} : ∀ {lv : List (Nat × mLV)}, mq_gl i lv = some v → (i, v) ∈ lv
  | [], h => by cases h
  | q :: r, h => by
    unfold mq_gl at h
    split at h
    · rename_i hq
      cases h
      rw [← hq]
      exact List.mem_cons_self
    · exact List.mem_cons_of_mem _ (mq_gl_mem h)
theorem mq_lm_mem {ad : Nat × Nat → Nat} {i : Nat} {v : mLV} {lv : List (Nat × mLV)} (h : (i, v) ∈ lv) : (i, mq_cl ad v) ∈ mq_lm ad lv := List.mem_map.mpr ⟨(i, v), h, rfl⟩
theorem mq_vl_sl {refs : List (Nat × Nat)} {lv : List (Nat × mLV)} {i : Nat} {v : mLV} (h : mq_vl refs lv) (hv : ∀ r, v = .inr (some r) → mq_vr refs r) : mq_vl refs (mq_sl i v lv) := by
  intro j r hm
  rcases mq_sl_mem hm with hm | hm
  · exact hv r (Prod.mk.inj hm).2.symm
  · exact h j r hm.1
theorem mq_vs_cons {refs : List (Nat × Nat)} {st : List mAV} {v : mAV} (h : mq_vs refs st) (hv : ∀ r, v = .inr (.inl (some r)) → mq_vr refs r) : mq_vs refs (v :: st) := by
  intro r hm
  rcases List.mem_cons.mp hm with hm | hm
  · exact hv r hm.symm
  · exact h r hm
theorem mq_vs_tl {refs : List (Nat × Nat)} {st : List mAV} {v : mAV} (h : mq_vs refs (v :: st)) : mq_vs refs st := fun r hm => h r (List.mem_cons_of_mem _ hm)
theorem mq_vs_int {refs : List (Nat × Nat)} {st : List mAV} {x : Int32} (h : mq_vs refs st) : mq_vs refs (.inl x :: st) := mq_vs_cons h (fun _ q => by cases q)
theorem mq_vs_long {refs : List (Nat × Nat)} {st : List mAV} {x : Int64} (h : mq_vs refs st) : mq_vs refs (.inr (.inr x) :: st) := mq_vs_cons h (fun _ q => by cases q)
section MQG
variable {p : Program} {l : Launch} {e : Env} {R : Room} {s : State} {m : MethodId} {args : Array Value} {below : List Frame} {meth : Method} {c : Code} {Q : State → Prop}
variable {cc : ByteArray} {nL : Nat} {own : String} {Ts : List Cond} {D : va_G} {cl : List vw_C} {tys : List (ClassId × FieldType)} {A : Nat → Prop} {X : State → Prop} {E : mEv} {ad0 : Nat × Nat → Nat} {refs0 : List (Nat × Nat)}
variable {pc tgt i : Nat} {lv : List (Nat × mLV)} {r : List mAV} {M : mMm} {cs ss : Nat} {x y : Int32}
theorem mq_g_iadd (C : mq_C p s m args c cc nL own Ts D cl tys A X) (hd : decode cc pc = .ok (.iadd, 1)) (k : mq_G p l e R s m args below meth c Q nL E D cl A ad0 refs0 (pc + 1) (lv) (.inl (x + y) :: r) (M) (cs) (ss)) : mq_G p l e R s m args below meth c Q nL E D cl A ad0 refs0 (pc) (lv) (.inl y :: .inl x :: r) (M) (cs) (ss) :=
  fun H locs ls ad refs hB hl hvl hvs => lv_iadd C.1 C.2.1 hd (k H locs ls ad refs hB hl hvl (mq_vs_int (mq_vs_tl (mq_vs_tl hvs))))
theorem mq_g_isub (C : mq_C p s m args c cc nL own Ts D cl tys A X) (hd : decode cc pc = .ok (.isub, 1)) (k : mq_G p l e R s m args below meth c Q nL E D cl A ad0 refs0 (pc + 1) (lv) (.inl (x - y) :: r) (M) (cs) (ss)) : mq_G p l e R s m args below meth c Q nL E D cl A ad0 refs0 (pc) (lv) (.inl y :: .inl x :: r) (M) (cs) (ss) :=
  fun H locs ls ad refs hB hl hvl hvs => lv_isub C.1 C.2.1 hd (k H locs ls ad refs hB hl hvl (mq_vs_int (mq_vs_tl (mq_vs_tl hvs))))
theorem mq_g_imul (C : mq_C p s m args c cc nL own Ts D cl tys A X) (hd : decode cc pc = .ok (.imul, 1)) (k : mq_G p l e R s m args below meth c Q nL E D cl A ad0 refs0 (pc + 1) (lv) (.inl (x * y) :: r) (M) (cs) (ss)) : mq_G p l e R s m args below meth c Q nL E D cl A ad0 refs0 (pc) (lv) (.inl y :: .inl x :: r) (M) (cs) (ss) :=
  fun H locs ls ad refs hB hl hvl hvs => lv_imul C.1 C.2.1 hd (k H locs ls ad refs hB hl hvl (mq_vs_int (mq_vs_tl (mq_vs_tl hvs))))
theorem mq_g_iand (C : mq_C p s m args c cc nL own Ts D cl tys A X) (hd : decode cc pc = .ok (.iand, 1)) (k : mq_G p l e R s m args below meth c Q nL E D cl A ad0 refs0 (pc + 1) (lv) (.inl (x &&& y) :: r) (M) (cs) (ss)) : mq_G p l e R s m args below meth c Q nL E D cl A ad0 refs0 (pc) (lv) (.inl y :: .inl x :: r) (M) (cs) (ss) :=
  fun H locs ls ad refs hB hl hvl hvs => lv_iand C.1 C.2.1 hd (k H locs ls ad refs hB hl hvl (mq_vs_int (mq_vs_tl (mq_vs_tl hvs))))
theorem mq_g_ior (C : mq_C p s m args c cc nL own Ts D cl tys A X) (hd : decode cc pc = .ok (.ior, 1)) (k : mq_G p l e R s m args below meth c Q nL E D cl A ad0 refs0 (pc + 1) (lv) (.inl (x ||| y) :: r) (M) (cs) (ss)) : mq_G p l e R s m args below meth c Q nL E D cl A ad0 refs0 (pc) (lv) (.inl y :: .inl x :: r) (M) (cs) (ss) :=
  fun H locs ls ad refs hB hl hvl hvs => lv_ior C.1 C.2.1 hd (k H locs ls ad refs hB hl hvl (mq_vs_int (mq_vs_tl (mq_vs_tl hvs))))
theorem mq_g_ixor (C : mq_C p s m args c cc nL own Ts D cl tys A X) (hd : decode cc pc = .ok (.ixor, 1)) (k : mq_G p l e R s m args below meth c Q nL E D cl A ad0 refs0 (pc + 1) (lv) (.inl (x ^^^ y) :: r) (M) (cs) (ss)) : mq_G p l e R s m args below meth c Q nL E D cl A ad0 refs0 (pc) (lv) (.inl y :: .inl x :: r) (M) (cs) (ss) :=
  fun H locs ls ad refs hB hl hvl hvs => lv_ixor C.1 C.2.1 hd (k H locs ls ad refs hB hl hvl (mq_vs_int (mq_vs_tl (mq_vs_tl hvs))))
theorem mq_g_ishl (C : mq_C p s m args c cc nL own Ts D cl tys A X) (hd : decode cc pc = .ok (.ishl, 1)) (k : mq_G p l e R s m args below meth c Q nL E D cl A ad0 refs0 (pc + 1) (lv) (.inl (x <<< (y &&& 31)) :: r) (M) (cs) (ss)) : mq_G p l e R s m args below meth c Q nL E D cl A ad0 refs0 (pc) (lv) (.inl y :: .inl x :: r) (M) (cs) (ss) :=
  fun H locs ls ad refs hB hl hvl hvs => lv_ishl C.1 C.2.1 hd (k H locs ls ad refs hB hl hvl (mq_vs_int (mq_vs_tl (mq_vs_tl hvs))))
theorem mq_g_ishr (C : mq_C p s m args c cc nL own Ts D cl tys A X) (hd : decode cc pc = .ok (.ishr, 1)) (k : mq_G p l e R s m args below meth c Q nL E D cl A ad0 refs0 (pc + 1) (lv) (.inl (x >>> (y &&& 31)) :: r) (M) (cs) (ss)) : mq_G p l e R s m args below meth c Q nL E D cl A ad0 refs0 (pc) (lv) (.inl y :: .inl x :: r) (M) (cs) (ss) :=
  fun H locs ls ad refs hB hl hvl hvs => lv_ishr C.1 C.2.1 hd (k H locs ls ad refs hB hl hvl (mq_vs_int (mq_vs_tl (mq_vs_tl hvs))))
theorem mq_g_iushr (C : mq_C p s m args c cc nL own Ts D cl tys A X) (hd : decode cc pc = .ok (.iushr, 1)) (k : mq_G p l e R s m args below meth c Q nL E D cl A ad0 refs0 (pc + 1) (lv) (.inl ((x.toUInt32 >>> (y.toUInt32 &&& Int32.toUInt32 31)).toInt32) :: r) (M) (cs) (ss)) : mq_G p l e R s m args below meth c Q nL E D cl A ad0 refs0 (pc) (lv) (.inl y :: .inl x :: r) (M) (cs) (ss) :=
  fun H locs ls ad refs hB hl hvl hvs => lv_iushr C.1 C.2.1 hd rfl (k H locs ls ad refs hB hl hvl (mq_vs_int (mq_vs_tl (mq_vs_tl hvs))))
theorem mq_g_irem (C : mq_C p s m args c cc nL own Ts D cl tys A X) (hd : decode cc pc = .ok (.irem, 1)) (hne : ¬ y = 0) (k : mq_G p l e R s m args below meth c Q nL E D cl A ad0 refs0 (pc + 1) (lv) (.inl (x - x / y * y) :: r) (M) (cs) (ss)) : mq_G p l e R s m args below meth c Q nL E D cl A ad0 refs0 (pc) (lv) (.inl y :: .inl x :: r) (M) (cs) (ss) :=
  fun H locs ls ad refs hB hl hvl hvs => lv_irem C.1 C.2.1 hd hne (k H locs ls ad refs hB hl hvl (mq_vs_int (mq_vs_tl (mq_vs_tl hvs))))
theorem mq_g_idiv (C : mq_C p s m args c cc nL own Ts D cl tys A X) (hd : decode cc pc = .ok (.idiv, 1)) (hne : ¬ y = 0) (k : mq_G p l e R s m args below meth c Q nL E D cl A ad0 refs0 (pc + 1) (lv) (.inl (x / y) :: r) (M) (cs) (ss)) : mq_G p l e R s m args below meth c Q nL E D cl A ad0 refs0 (pc) (lv) (.inl y :: .inl x :: r) (M) (cs) (ss) :=
  fun H locs ls ad refs hB hl hvl hvs => lv_idiv C.1 C.2.1 hd hne (k H locs ls ad refs hB hl hvl (mq_vs_int (mq_vs_tl (mq_vs_tl hvs))))
theorem mq_g_ineg (C : mq_C p s m args c cc nL own Ts D cl tys A X) (hd : decode cc pc = .ok (.ineg, 1)) (k : mq_G p l e R s m args below meth c Q nL E D cl A ad0 refs0 (pc + 1) (lv) (.inl (-x) :: r) (M) (cs) (ss)) : mq_G p l e R s m args below meth c Q nL E D cl A ad0 refs0 (pc) (lv) (.inl x :: r) (M) (cs) (ss) :=
  fun H locs ls ad refs hB hl hvl hvs => lv_ineg C.1 C.2.1 hd (k H locs ls ad refs hB hl hvl (mq_vs_int (mq_vs_tl hvs)))
theorem mq_g_i2b (C : mq_C p s m args c cc nL own Ts D cl tys A X) (hd : decode cc pc = .ok (.i2b, 1)) (k : mq_G p l e R s m args below meth c Q nL E D cl A ad0 refs0 (pc + 1) (lv) (.inl (x.toInt8.toInt32) :: r) (M) (cs) (ss)) : mq_G p l e R s m args below meth c Q nL E D cl A ad0 refs0 (pc) (lv) (.inl x :: r) (M) (cs) (ss) :=
  fun H locs ls ad refs hB hl hvl hvs => lv_i2b C.1 C.2.1 hd rfl (k H locs ls ad refs hB hl hvl (mq_vs_int (mq_vs_tl hvs)))
theorem mq_g_i2s (C : mq_C p s m args c cc nL own Ts D cl tys A X) (hd : decode cc pc = .ok (.i2s, 1)) (k : mq_G p l e R s m args below meth c Q nL E D cl A ad0 refs0 (pc + 1) (lv) (.inl (x.toInt16.toInt32) :: r) (M) (cs) (ss)) : mq_G p l e R s m args below meth c Q nL E D cl A ad0 refs0 (pc) (lv) (.inl x :: r) (M) (cs) (ss) :=
  fun H locs ls ad refs hB hl hvl hvs => lv_i2s C.1 C.2.1 hd rfl (k H locs ls ad refs hB hl hvl (mq_vs_int (mq_vs_tl hvs)))
theorem mq_g_i2c (C : mq_C p s m args c cc nL own Ts D cl tys A X) (hd : decode cc pc = .ok (.i2c, 1)) (k : mq_G p l e R s m args below meth c Q nL E D cl A ad0 refs0 (pc + 1) (lv) (.inl ((x.toUInt32 % 65536).toInt32) :: r) (M) (cs) (ss)) : mq_G p l e R s m args below meth c Q nL E D cl A ad0 refs0 (pc) (lv) (.inl x :: r) (M) (cs) (ss) :=
  fun H locs ls ad refs hB hl hvl hvs => lv_i2c C.1 C.2.1 hd rfl (k H locs ls ad refs hB hl hvl (mq_vs_int (mq_vs_tl hvs)))
theorem mq_g_i2l (C : mq_C p s m args c cc nL own Ts D cl tys A X) (hd : decode cc pc = .ok (.i2l, 1)) (k : mq_G p l e R s m args below meth c Q nL E D cl A ad0 refs0 (pc + 1) (lv) (.inr (.inr x.toInt64) :: r) (M) (cs) (ss)) : mq_G p l e R s m args below meth c Q nL E D cl A ad0 refs0 (pc) (lv) (.inl x :: r) (M) (cs) (ss) :=
  fun H locs ls ad refs hB hl hvl hvs => lv_i2l C.1 C.2.1 hd rfl (k H locs ls ad refs hB hl hvl (mq_vs_long (mq_vs_tl hvs)))
theorem mq_g_lcmp (C : mq_C p s m args c cc nL own Ts D cl tys A X) {x y : Int64} (hd : decode cc pc = .ok (.lcmp, 1)) (k : mq_G p l e R s m args below meth c Q nL E D cl A ad0 refs0 (pc + 1) (lv) (.inl (lg_cmp x y) :: r) (M) (cs) (ss)) : mq_G p l e R s m args below meth c Q nL E D cl A ad0 refs0 (pc) (lv) (.inr (.inr y) :: .inr (.inr x) :: r) (M) (cs) (ss) :=
  fun H locs ls ad refs hB hl hvl hvs => W.lcmp C.1 C.2.1 hd (k H locs ls ad refs hB hl hvl (mq_vs_int (mq_vs_tl (mq_vs_tl hvs))))
theorem mq_g_iconst (C : mq_C p s m args c cc nL own Ts D cl tys A X) {n : Int} (hd : decode cc pc = .ok (.iconst n, 1)) (hv : Int32.ofInt n = x) (k : mq_G p l e R s m args below meth c Q nL E D cl A ad0 refs0 (pc + 1) (lv) (.inl x :: r) (M) (cs) (ss)) : mq_G p l e R s m args below meth c Q nL E D cl A ad0 refs0 (pc) (lv) (r) (M) (cs) (ss) :=
  fun H locs ls ad refs hB hl hvl hvs => lv_iconst C.1 C.2.1 hd hv (k H locs ls ad refs hB hl hvl (mq_vs_int hvs))
theorem mq_g_bipush (C : mq_C p s m args c cc nL own Ts D cl tys A X) {n : Int} (hd : decode cc pc = .ok (.bipush n, 2)) (hv : (Int8.ofInt n).toInt32 = x) (k : mq_G p l e R s m args below meth c Q nL E D cl A ad0 refs0 (pc + 2) (lv) (.inl x :: r) (M) (cs) (ss)) : mq_G p l e R s m args below meth c Q nL E D cl A ad0 refs0 (pc) (lv) (r) (M) (cs) (ss) :=
  fun H locs ls ad refs hB hl hvl hvs => lv_bipush C.1 C.2.1 hd hv (k H locs ls ad refs hB hl hvl (mq_vs_int hvs))
theorem mq_g_sipush (C : mq_C p s m args c cc nL own Ts D cl tys A X) {n : Int} (hd : decode cc pc = .ok (.sipush n, 3)) (hv : (Int16.ofInt n).toInt32 = x) (k : mq_G p l e R s m args below meth c Q nL E D cl A ad0 refs0 (pc + 3) (lv) (.inl x :: r) (M) (cs) (ss)) : mq_G p l e R s m args below meth c Q nL E D cl A ad0 refs0 (pc) (lv) (r) (M) (cs) (ss) :=
  fun H locs ls ad refs hB hl hvl hvs => lv_sipush C.1 C.2.1 hd hv (k H locs ls ad refs hB hl hvl (mq_vs_int hvs))
theorem mq_g_ldc (C : mq_C p s m args c cc nL own Ts D cl tys A X) {ix : Nat} (hd : decode cc pc = .ok (.ldc ix, 2)) (hv : Jvm.Cond.constant own ix x ∈ Ts) (k : mq_G p l e R s m args below meth c Q nL E D cl A ad0 refs0 (pc + 2) (lv) (.inl x :: r) (M) (cs) (ss)) : mq_G p l e R s m args below meth c Q nL E D cl A ad0 refs0 (pc) (lv) (r) (M) (cs) (ss) :=
  fun H locs ls ad refs hB hl hvl hvs => lv_ldc C.1 C.2.1 C.2.2.2.1 (C.2.2.2.2.1 _ hv) hd (k H locs ls ad refs hB hl hvl (mq_vs_int hvs))
theorem mq_g_null (C : mq_C p s m args c cc nL own Ts D cl tys A X) (hd : decode cc pc = .ok (.aconst_null, 1)) (k : mq_G p l e R s m args below meth c Q nL E D cl A ad0 refs0 (pc + 1) (lv) (.inr (.inl none) :: r) (M) (cs) (ss)) : mq_G p l e R s m args below meth c Q nL E D cl A ad0 refs0 (pc) (lv) (r) (M) (cs) (ss) :=
  fun H locs ls ad refs hB hl hvl hvs => lv_null C.1 C.2.1 hd (k H locs ls ad refs hB hl hvl (mq_vs_cons hvs (fun _ q => by cases q)))
theorem mq_g_iload (C : mq_C p s m args c cc nL own Ts D cl tys A X) (hd : decode cc pc = .ok (.iload i, 2)) (hi : mq_gl i lv = some (.inl x)) (k : mq_G p l e R s m args below meth c Q nL E D cl A ad0 refs0 (pc + 2) (lv) (.inl x :: r) (M) (cs) (ss)) : mq_G p l e R s m args below meth c Q nL E D cl A ad0 refs0 (pc) (lv) (r) (M) (cs) (ss) :=
  fun H locs ls ad refs hB hl hvl hvs => lv_iload C.1 C.2.1 hd (hl.2.2 _ (mq_lm_mem (mq_gl_mem hi))) (k H locs ls ad refs hB hl hvl (mq_vs_int hvs))
theorem mq_g_iload_n (C : mq_C p s m args c cc nL own Ts D cl tys A X) {n : Fin 4} (hd : decode cc pc = .ok (.iload_n n, 1)) (hi : mq_gl n.val lv = some (.inl x)) (k : mq_G p l e R s m args below meth c Q nL E D cl A ad0 refs0 (pc + 1) (lv) (.inl x :: r) (M) (cs) (ss)) : mq_G p l e R s m args below meth c Q nL E D cl A ad0 refs0 (pc) (lv) (r) (M) (cs) (ss) :=
  fun H locs ls ad refs hB hl hvl hvs => lv_iload_n C.1 C.2.1 hd rfl (hl.2.2 _ (mq_lm_mem (mq_gl_mem hi))) (k H locs ls ad refs hB hl hvl (mq_vs_int hvs))
theorem mq_g_aload (C : mq_C p s m args c cc nL own Ts D cl tys A X) {q : mRf} (hd : decode cc pc = .ok (.aload i, 2)) (hi : mq_gl i lv = some (.inr q)) (k : mq_G p l e R s m args below meth c Q nL E D cl A ad0 refs0 (pc + 2) (lv) (.inr (.inl q) :: r) (M) (cs) (ss)) : mq_G p l e R s m args below meth c Q nL E D cl A ad0 refs0 (pc) (lv) (r) (M) (cs) (ss) := by
  intro H locs ls ad refs hB hl hvl hvs
  have h1 := hl.2.2 _ (mq_lm_mem (ad := ad) (mq_gl_mem hi))
  have h2 := k H locs ls ad refs hB hl hvl (mq_vs_cons hvs (fun r' e => by cases e; exact hvl _ r' (mq_gl_mem hi)))
  rcases q with _ | q
  · exact lv_aloadN C.1 C.2.1 hd h1 h2
  · exact lv_aload C.1 C.2.1 hd h1 h2
theorem mq_g_aload_n (C : mq_C p s m args c cc nL own Ts D cl tys A X) {n : Fin 4} {q : mRf} (hd : decode cc pc = .ok (.aload_n n, 1)) (hi : mq_gl n.val lv = some (.inr q)) (k : mq_G p l e R s m args below meth c Q nL E D cl A ad0 refs0 (pc + 1) (lv) (.inr (.inl q) :: r) (M) (cs) (ss)) : mq_G p l e R s m args below meth c Q nL E D cl A ad0 refs0 (pc) (lv) (r) (M) (cs) (ss) := by
  intro H locs ls ad refs hB hl hvl hvs
  have h1 := hl.2.2 _ (mq_lm_mem (ad := ad) (mq_gl_mem hi))
  have h2 := k H locs ls ad refs hB hl hvl (mq_vs_cons hvs (fun r' e => by cases e; exact hvl _ r' (mq_gl_mem hi)))
  rcases q with _ | q
  · exact lv_aload_nN C.1 C.2.1 hd rfl h1 h2
  · exact lv_aload_n C.1 C.2.1 hd rfl h1 h2
theorem mq_g_istore (C : mq_C p s m args c cc nL own Ts D cl tys A X) (hd : decode cc pc = .ok (.istore i, 2)) (hn : i < nL) (k : mq_G p l e R s m args below meth c Q nL E D cl A ad0 refs0 (pc + 2) (mq_sl i (.inl x) lv) (r) (M) (cs) (ss)) : mq_G p l e R s m args below meth c Q nL E D cl A ad0 refs0 (pc) (lv) (.inl x :: r) (M) (cs) (ss) := by
  intro H locs ls ad refs hB hl hvl hvs
  exact lv_istore C.1 C.2.1 hd hl hn rfl (fun ls' hl' => k H locs ls' ad refs hB (mq_lv_sl (v := .inl x) hl') (mq_vl_sl hvl (fun _ e => by cases e)) (mq_vs_tl hvs))
theorem mq_g_istore_n (C : mq_C p s m args c cc nL own Ts D cl tys A X) {n : Fin 4} (hd : decode cc pc = .ok (.istore_n n, 1)) (hn : n.val < nL) (k : mq_G p l e R s m args below meth c Q nL E D cl A ad0 refs0 (pc + 1) (mq_sl n.val (.inl x) lv) (r) (M) (cs) (ss)) : mq_G p l e R s m args below meth c Q nL E D cl A ad0 refs0 (pc) (lv) (.inl x :: r) (M) (cs) (ss) := by
  intro H locs ls ad refs hB hl hvl hvs
  exact lv_istore_n C.1 C.2.1 hd rfl hl hn rfl (fun ls' hl' => k H locs ls' ad refs hB (mq_lv_sl (v := .inl x) hl') (mq_vl_sl hvl (fun _ e => by cases e)) (mq_vs_tl hvs))
theorem mq_g_astore (C : mq_C p s m args c cc nL own Ts D cl tys A X) {q : mRf} (hd : decode cc pc = .ok (.astore i, 2)) (hn : i < nL) (k : mq_G p l e R s m args below meth c Q nL E D cl A ad0 refs0 (pc + 2) (mq_sl i (.inr q) lv) (r) (M) (cs) (ss)) : mq_G p l e R s m args below meth c Q nL E D cl A ad0 refs0 (pc) (lv) (.inr (.inl q) :: r) (M) (cs) (ss) := by
  intro H locs ls ad refs hB hl hvl hvs
  have hv : mq_vl refs (mq_sl i (.inr q) lv) := mq_vl_sl hvl (fun r' e => by cases e; exact hvs r' List.mem_cons_self)
  rcases q with _ | q
  · exact lv_astoreN C.1 C.2.1 hd hl hn rfl (fun ls' hl' => k H locs ls' ad refs hB (mq_lv_sl (v := .inr none) hl') hv (mq_vs_tl hvs))
  · exact lv_astore C.1 C.2.1 hd hl hn rfl (fun ls' hl' => k H locs ls' ad refs hB (mq_lv_sl (v := .inr (some q)) hl') hv (mq_vs_tl hvs))
theorem mq_g_astore_n (C : mq_C p s m args c cc nL own Ts D cl tys A X) {n : Fin 4} {q : mRf} (hd : decode cc pc = .ok (.astore_n n, 1)) (hn : n.val < nL) (k : mq_G p l e R s m args below meth c Q nL E D cl A ad0 refs0 (pc + 1) (mq_sl n.val (.inr q) lv) (r) (M) (cs) (ss)) : mq_G p l e R s m args below meth c Q nL E D cl A ad0 refs0 (pc) (lv) (.inr (.inl q) :: r) (M) (cs) (ss) := by
  intro H locs ls ad refs hB hl hvl hvs
  have hv : mq_vl refs (mq_sl n.val (.inr q) lv) := mq_vl_sl hvl (fun r' e => by cases e; exact hvs r' List.mem_cons_self)
  rcases q with _ | q
  · exact lv_astore_nN C.1 C.2.1 hd rfl hl hn rfl (fun ls' hl' => k H locs ls' ad refs hB (mq_lv_sl (v := .inr none) hl') hv (mq_vs_tl hvs))
  · exact lv_astore_n C.1 C.2.1 hd rfl hl hn rfl (fun ls' hl' => k H locs ls' ad refs hB (mq_lv_sl (v := .inr (some q)) hl') hv (mq_vs_tl hvs))
theorem mq_g_iinc (C : mq_C p s m args c cc nL own Ts D cl tys A X) {n : Int} (hd : decode cc pc = .ok (.iinc i n, 3)) (hv : Int32.ofInt n = y) (hi : mq_gl i lv = some (.inl x)) (hn : i < nL) (k : mq_G p l e R s m args below meth c Q nL E D cl A ad0 refs0 (pc + 3) (mq_sl i (.inl (x + y)) lv) (r) (M) (cs) (ss)) : mq_G p l e R s m args below meth c Q nL E D cl A ad0 refs0 (pc) (lv) (r) (M) (cs) (ss) := by
  intro H locs ls ad refs hB hl hvl hvs
  obtain ⟨q, hq⟩ := List.getElem?_of_mem (mq_lm_mem (ad := ad) (mq_gl_mem hi))
  exact lv_iinc (k := q) (v := x + y) C.1 C.2.1 hd hl hq (by rw [hv]) hn rfl (fun ls' hl' => k H locs ls' ad refs hB (mq_lv_sl (v := .inl (x + y)) hl') (mq_vl_sl hvl (fun _ e => by cases e)) hvs)
theorem mq_g_dup (C : mq_C p s m args c cc nL own Ts D cl tys A X) {v : mAV} (hd : decode cc pc = .ok (.dup, 1)) (hv : mq_c1 v = true) (k : mq_G p l e R s m args below meth c Q nL E D cl A ad0 refs0 (pc + 1) (lv) (v :: v :: r) (M) (cs) (ss)) : mq_G p l e R s m args below meth c Q nL E D cl A ad0 refs0 (pc) (lv) (v :: r) (M) (cs) (ss) :=
  fun H locs ls ad refs hB hl hvl hvs => lv_dup C.1 C.2.1 hd (mq_cv_cat ad v hv) (k H locs ls ad refs hB hl hvl (fun q hq => hvs q (by rcases List.mem_cons.mp hq with h | h; exact h ▸ List.mem_cons_self; exact h)))
theorem mq_g_pop (C : mq_C p s m args c cc nL own Ts D cl tys A X) {v : mAV} (hd : decode cc pc = .ok (.pop, 1)) (hv : mq_c1 v = true) (k : mq_G p l e R s m args below meth c Q nL E D cl A ad0 refs0 (pc + 1) (lv) (r) (M) (cs) (ss)) : mq_G p l e R s m args below meth c Q nL E D cl A ad0 refs0 (pc) (lv) (v :: r) (M) (cs) (ss) :=
  fun H locs ls ad refs hB hl hvl hvs => lv_pop C.1 C.2.1 hd (mq_cv_cat ad v hv) (k H locs ls ad refs hB hl hvl (mq_vs_tl hvs))
theorem mq_g_dup_x1 (C : mq_C p s m args c cc nL own Ts D cl tys A X) {v w : mAV} (hd : decode cc pc = .ok (.dup_x1, 1)) (hv : mq_c1 v = true) (hw : mq_c1 w = true) (k : mq_G p l e R s m args below meth c Q nL E D cl A ad0 refs0 (pc + 1) (lv) (v :: w :: v :: r) (M) (cs) (ss)) : mq_G p l e R s m args below meth c Q nL E D cl A ad0 refs0 (pc) (lv) (v :: w :: r) (M) (cs) (ss) :=
  fun H locs ls ad refs hB hl hvl hvs => lv_dup_x1 C.1 C.2.1 hd (mq_cv_cat ad v hv) (mq_cv_cat ad w hw) (k H locs ls ad refs hB hl hvl (fun q hq => hvs q (by simp only [List.mem_cons] at hq ⊢; rcases hq with h | h | h | h; exact .inl h; exact .inr (.inl h); exact .inl h; exact .inr (.inr h))))
theorem mq_g_dup_x2 (C : mq_C p s m args c cc nL own Ts D cl tys A X) {v w z : mAV} (hd : decode cc pc = .ok (.dup_x2, 1)) (hv : mq_c1 v = true) (hw : mq_c1 w = true) (hz : mq_c1 z = true) (k : mq_G p l e R s m args below meth c Q nL E D cl A ad0 refs0 (pc + 1) (lv) (v :: w :: z :: v :: r) (M) (cs) (ss)) : mq_G p l e R s m args below meth c Q nL E D cl A ad0 refs0 (pc) (lv) (v :: w :: z :: r) (M) (cs) (ss) :=
  fun H locs ls ad refs hB hl hvl hvs => lv_dup_x2 C.1 C.2.1 hd (mq_cv_cat ad v hv) (mq_cv_cat ad w hw) (mq_cv_cat ad z hz) (k H locs ls ad refs hB hl hvl (fun q hq => hvs q (by simp only [List.mem_cons] at hq ⊢; rcases hq with h | h | h | h | h; exact .inl h; exact .inr (.inl h); exact .inr (.inr (.inl h)); exact .inl h; exact .inr (.inr (.inr h)))))
theorem mq_g_dup2 (C : mq_C p s m args c cc nL own Ts D cl tys A X) {v w : mAV} (hd : decode cc pc = .ok (.dup2, 1)) (hv : mq_c1 v = true) (hw : mq_c1 w = true) (k : mq_G p l e R s m args below meth c Q nL E D cl A ad0 refs0 (pc + 1) (lv) (v :: w :: v :: w :: r) (M) (cs) (ss)) : mq_G p l e R s m args below meth c Q nL E D cl A ad0 refs0 (pc) (lv) (v :: w :: r) (M) (cs) (ss) :=
  fun H locs ls ad refs hB hl hvl hvs => lv_dup2_11 C.1 C.2.1 hd (mq_cv_cat ad v hv) (mq_cv_cat ad w hw) (k H locs ls ad refs hB hl hvl (fun q hq => hvs q (by simp only [List.mem_cons] at hq ⊢; rcases hq with h | h | h | h | h; exact .inl h; exact .inr (.inl h); exact .inl h; exact .inr (.inl h); exact .inr (.inr h))))
theorem mq_g_goto (C : mq_C p s m args c cc nL own Ts D cl tys A X) {off : Int} (hd : decode cc pc = .ok (.goto off, 3)) (ht : (pc : Int) + off = (tgt : Int)) (k : mq_G p l e R s m args below meth c Q nL E D cl A ad0 refs0 (tgt) (lv) (r) (M) (cs) (ss)) : mq_G p l e R s m args below meth c Q nL E D cl A ad0 refs0 (pc) (lv) (r) (M) (cs) (ss) :=
  fun H locs ls ad refs hB hl hvl hvs => lv_goto C.1 C.2.1 hd ht (k H locs ls ad refs hB hl hvl hvs)
theorem mq_g_if_eq (C : mq_C p s m args c cc nL own Ts D cl tys A X) {off : Int} (hd : decode cc pc = .ok (.ifCond .eq off, 3)) (ht : (pc : Int) + off = (tgt : Int)) (kt : x = 0 → mq_G p l e R s m args below meth c Q nL E D cl A ad0 refs0 (tgt) (lv) (r) (M) (cs) (ss)) (kf : ¬ x = 0 → mq_G p l e R s m args below meth c Q nL E D cl A ad0 refs0 (pc + 3) (lv) (r) (M) (cs) (ss)) : mq_G p l e R s m args below meth c Q nL E D cl A ad0 refs0 (pc) (lv) (.inl x :: r) (M) (cs) (ss) :=
  fun H locs ls ad refs hB hl hvl hvs => lv_if_eq C.1 C.2.1 hd ht (fun q => kt q H locs ls ad refs hB hl hvl (mq_vs_tl hvs)) (fun q => kf q H locs ls ad refs hB hl hvl (mq_vs_tl hvs))
theorem mq_g_if_ne (C : mq_C p s m args c cc nL own Ts D cl tys A X) {off : Int} (hd : decode cc pc = .ok (.ifCond .ne off, 3)) (ht : (pc : Int) + off = (tgt : Int)) (kt : ¬ x = 0 → mq_G p l e R s m args below meth c Q nL E D cl A ad0 refs0 (tgt) (lv) (r) (M) (cs) (ss)) (kf : x = 0 → mq_G p l e R s m args below meth c Q nL E D cl A ad0 refs0 (pc + 3) (lv) (r) (M) (cs) (ss)) : mq_G p l e R s m args below meth c Q nL E D cl A ad0 refs0 (pc) (lv) (.inl x :: r) (M) (cs) (ss) :=
  fun H locs ls ad refs hB hl hvl hvs => lv_if_ne C.1 C.2.1 hd ht (fun q => kt q H locs ls ad refs hB hl hvl (mq_vs_tl hvs)) (fun q => kf q H locs ls ad refs hB hl hvl (mq_vs_tl hvs))
theorem mq_g_if_lt (C : mq_C p s m args c cc nL own Ts D cl tys A X) {off : Int} (hd : decode cc pc = .ok (.ifCond .lt off, 3)) (ht : (pc : Int) + off = (tgt : Int)) (kt : x < 0 → mq_G p l e R s m args below meth c Q nL E D cl A ad0 refs0 (tgt) (lv) (r) (M) (cs) (ss)) (kf : ¬ x < 0 → mq_G p l e R s m args below meth c Q nL E D cl A ad0 refs0 (pc + 3) (lv) (r) (M) (cs) (ss)) : mq_G p l e R s m args below meth c Q nL E D cl A ad0 refs0 (pc) (lv) (.inl x :: r) (M) (cs) (ss) :=
  fun H locs ls ad refs hB hl hvl hvs => lv_if_lt C.1 C.2.1 hd ht (fun q => kt q H locs ls ad refs hB hl hvl (mq_vs_tl hvs)) (fun q => kf q H locs ls ad refs hB hl hvl (mq_vs_tl hvs))
theorem mq_g_if_ge (C : mq_C p s m args c cc nL own Ts D cl tys A X) {off : Int} (hd : decode cc pc = .ok (.ifCond .ge off, 3)) (ht : (pc : Int) + off = (tgt : Int)) (kt : ¬ x < 0 → mq_G p l e R s m args below meth c Q nL E D cl A ad0 refs0 (tgt) (lv) (r) (M) (cs) (ss)) (kf : x < 0 → mq_G p l e R s m args below meth c Q nL E D cl A ad0 refs0 (pc + 3) (lv) (r) (M) (cs) (ss)) : mq_G p l e R s m args below meth c Q nL E D cl A ad0 refs0 (pc) (lv) (.inl x :: r) (M) (cs) (ss) :=
  fun H locs ls ad refs hB hl hvl hvs => lv_if_ge C.1 C.2.1 hd ht (fun q => kt (Int32.not_lt.mpr q) H locs ls ad refs hB hl hvl (mq_vs_tl hvs)) (fun q => kf (Int32.not_le.mp q) H locs ls ad refs hB hl hvl (mq_vs_tl hvs))
theorem mq_g_if_gt (C : mq_C p s m args c cc nL own Ts D cl tys A X) {off : Int} (hd : decode cc pc = .ok (.ifCond .gt off, 3)) (ht : (pc : Int) + off = (tgt : Int)) (kt : 0 < x → mq_G p l e R s m args below meth c Q nL E D cl A ad0 refs0 (tgt) (lv) (r) (M) (cs) (ss)) (kf : ¬ 0 < x → mq_G p l e R s m args below meth c Q nL E D cl A ad0 refs0 (pc + 3) (lv) (r) (M) (cs) (ss)) : mq_G p l e R s m args below meth c Q nL E D cl A ad0 refs0 (pc) (lv) (.inl x :: r) (M) (cs) (ss) :=
  fun H locs ls ad refs hB hl hvl hvs => lv_if_gt C.1 C.2.1 hd ht (fun q => kt q H locs ls ad refs hB hl hvl (mq_vs_tl hvs)) (fun q => kf q H locs ls ad refs hB hl hvl (mq_vs_tl hvs))
theorem mq_g_if_le (C : mq_C p s m args c cc nL own Ts D cl tys A X) {off : Int} (hd : decode cc pc = .ok (.ifCond .le off, 3)) (ht : (pc : Int) + off = (tgt : Int)) (kt : ¬ 0 < x → mq_G p l e R s m args below meth c Q nL E D cl A ad0 refs0 (tgt) (lv) (r) (M) (cs) (ss)) (kf : 0 < x → mq_G p l e R s m args below meth c Q nL E D cl A ad0 refs0 (pc + 3) (lv) (r) (M) (cs) (ss)) : mq_G p l e R s m args below meth c Q nL E D cl A ad0 refs0 (pc) (lv) (.inl x :: r) (M) (cs) (ss) :=
  fun H locs ls ad refs hB hl hvl hvs => lv_if_le C.1 C.2.1 hd ht (fun q => kt (Int32.not_lt.mpr q) H locs ls ad refs hB hl hvl (mq_vs_tl hvs)) (fun q => kf (Int32.not_le.mp q) H locs ls ad refs hB hl hvl (mq_vs_tl hvs))
theorem mq_g_icmp_eq (C : mq_C p s m args c cc nL own Ts D cl tys A X) {off : Int} (hd : decode cc pc = .ok (.if_icmp .eq off, 3)) (ht : (pc : Int) + off = (tgt : Int)) (kt : x = y → mq_G p l e R s m args below meth c Q nL E D cl A ad0 refs0 (tgt) (lv) (r) (M) (cs) (ss)) (kf : ¬ x = y → mq_G p l e R s m args below meth c Q nL E D cl A ad0 refs0 (pc + 3) (lv) (r) (M) (cs) (ss)) : mq_G p l e R s m args below meth c Q nL E D cl A ad0 refs0 (pc) (lv) (.inl y :: .inl x :: r) (M) (cs) (ss) :=
  fun H locs ls ad refs hB hl hvl hvs => lv_icmp_eq C.1 C.2.1 hd ht (fun q => kt q H locs ls ad refs hB hl hvl (mq_vs_tl (mq_vs_tl hvs))) (fun q => kf q H locs ls ad refs hB hl hvl (mq_vs_tl (mq_vs_tl hvs)))
theorem mq_g_icmp_ne (C : mq_C p s m args c cc nL own Ts D cl tys A X) {off : Int} (hd : decode cc pc = .ok (.if_icmp .ne off, 3)) (ht : (pc : Int) + off = (tgt : Int)) (kt : ¬ x = y → mq_G p l e R s m args below meth c Q nL E D cl A ad0 refs0 (tgt) (lv) (r) (M) (cs) (ss)) (kf : x = y → mq_G p l e R s m args below meth c Q nL E D cl A ad0 refs0 (pc + 3) (lv) (r) (M) (cs) (ss)) : mq_G p l e R s m args below meth c Q nL E D cl A ad0 refs0 (pc) (lv) (.inl y :: .inl x :: r) (M) (cs) (ss) :=
  fun H locs ls ad refs hB hl hvl hvs => lv_icmp_ne C.1 C.2.1 hd ht (fun q => kt q H locs ls ad refs hB hl hvl (mq_vs_tl (mq_vs_tl hvs))) (fun q => kf q H locs ls ad refs hB hl hvl (mq_vs_tl (mq_vs_tl hvs)))
theorem mq_g_icmp_lt (C : mq_C p s m args c cc nL own Ts D cl tys A X) {off : Int} (hd : decode cc pc = .ok (.if_icmp .lt off, 3)) (ht : (pc : Int) + off = (tgt : Int)) (kt : x < y → mq_G p l e R s m args below meth c Q nL E D cl A ad0 refs0 (tgt) (lv) (r) (M) (cs) (ss)) (kf : ¬ x < y → mq_G p l e R s m args below meth c Q nL E D cl A ad0 refs0 (pc + 3) (lv) (r) (M) (cs) (ss)) : mq_G p l e R s m args below meth c Q nL E D cl A ad0 refs0 (pc) (lv) (.inl y :: .inl x :: r) (M) (cs) (ss) :=
  fun H locs ls ad refs hB hl hvl hvs => lv_icmp_lt C.1 C.2.1 hd ht (fun q => kt q H locs ls ad refs hB hl hvl (mq_vs_tl (mq_vs_tl hvs))) (fun q => kf q H locs ls ad refs hB hl hvl (mq_vs_tl (mq_vs_tl hvs)))
theorem mq_g_icmp_ge (C : mq_C p s m args c cc nL own Ts D cl tys A X) {off : Int} (hd : decode cc pc = .ok (.if_icmp .ge off, 3)) (ht : (pc : Int) + off = (tgt : Int)) (kt : ¬ x < y → mq_G p l e R s m args below meth c Q nL E D cl A ad0 refs0 (tgt) (lv) (r) (M) (cs) (ss)) (kf : x < y → mq_G p l e R s m args below meth c Q nL E D cl A ad0 refs0 (pc + 3) (lv) (r) (M) (cs) (ss)) : mq_G p l e R s m args below meth c Q nL E D cl A ad0 refs0 (pc) (lv) (.inl y :: .inl x :: r) (M) (cs) (ss) :=
  fun H locs ls ad refs hB hl hvl hvs => lv_icmp_ge C.1 C.2.1 hd ht (fun q => kt (Int32.not_lt.mpr q) H locs ls ad refs hB hl hvl (mq_vs_tl (mq_vs_tl hvs))) (fun q => kf (Int32.not_le.mp q) H locs ls ad refs hB hl hvl (mq_vs_tl (mq_vs_tl hvs)))
theorem mq_g_icmp_gt (C : mq_C p s m args c cc nL own Ts D cl tys A X) {off : Int} (hd : decode cc pc = .ok (.if_icmp .gt off, 3)) (ht : (pc : Int) + off = (tgt : Int)) (kt : y < x → mq_G p l e R s m args below meth c Q nL E D cl A ad0 refs0 (tgt) (lv) (r) (M) (cs) (ss)) (kf : ¬ y < x → mq_G p l e R s m args below meth c Q nL E D cl A ad0 refs0 (pc + 3) (lv) (r) (M) (cs) (ss)) : mq_G p l e R s m args below meth c Q nL E D cl A ad0 refs0 (pc) (lv) (.inl y :: .inl x :: r) (M) (cs) (ss) :=
  fun H locs ls ad refs hB hl hvl hvs => lv_icmp_gt C.1 C.2.1 hd ht (fun q => kt q H locs ls ad refs hB hl hvl (mq_vs_tl (mq_vs_tl hvs))) (fun q => kf q H locs ls ad refs hB hl hvl (mq_vs_tl (mq_vs_tl hvs)))
theorem mq_g_icmp_le (C : mq_C p s m args c cc nL own Ts D cl tys A X) {off : Int} (hd : decode cc pc = .ok (.if_icmp .le off, 3)) (ht : (pc : Int) + off = (tgt : Int)) (kt : ¬ y < x → mq_G p l e R s m args below meth c Q nL E D cl A ad0 refs0 (tgt) (lv) (r) (M) (cs) (ss)) (kf : y < x → mq_G p l e R s m args below meth c Q nL E D cl A ad0 refs0 (pc + 3) (lv) (r) (M) (cs) (ss)) : mq_G p l e R s m args below meth c Q nL E D cl A ad0 refs0 (pc) (lv) (.inl y :: .inl x :: r) (M) (cs) (ss) :=
  fun H locs ls ad refs hB hl hvl hvs => lv_icmp_le C.1 C.2.1 hd ht (fun q => kt (Int32.not_lt.mpr q) H locs ls ad refs hB hl hvl (mq_vs_tl (mq_vs_tl hvs))) (fun q => kf (Int32.not_le.mp q) H locs ls ad refs hB hl hvl (mq_vs_tl (mq_vs_tl hvs)))
theorem mq_ad_inj {ad : Nat × Nat → Nat} {refs : List (Nat × Nat)} {H : Heap} {locs : List Loc} (hB : mq_B E D cl A s ad0 refs0 ad refs M H locs) {u w : mRf} (hu : ∀ r, u = some r → r ∈ refs) (hw : ∀ r, w = some r → r ∈ refs) (h : u.map ad = w.map ad) : u = w := by
  rcases u with _ | u <;> rcases w with _ | w
  · rfl
  · cases h
  · cases h
  · rw [mq_injr hB.2.1 (hu u rfl) (hw w rfl) (Option.some.inj h)]
theorem mq_g_ifnull_0 (C : mq_C p s m args c cc nL own Ts D cl tys A X) {off : Int} (hd : decode cc pc = .ok (.ifnull off, 3)) (ht : (pc : Int) + off = (tgt : Int)) (k : mq_G p l e R s m args below meth c Q nL E D cl A ad0 refs0 (tgt) (lv) (r) (M) (cs) (ss)) : mq_G p l e R s m args below meth c Q nL E D cl A ad0 refs0 (pc) (lv) (.inr (.inl none) :: r) (M) (cs) (ss) :=
  fun H locs ls ad refs hB hl hvl hvs => lv_ifnullN C.1 C.2.1 hd ht (k H locs ls ad refs hB hl hvl (mq_vs_tl hvs))
theorem mq_g_ifnull_1 (C : mq_C p s m args c cc nL own Ts D cl tys A X) {q : Nat × Nat} {off : Int} (hd : decode cc pc = .ok (.ifnull off, 3)) (k : mq_G p l e R s m args below meth c Q nL E D cl A ad0 refs0 (pc + 3) (lv) (r) (M) (cs) (ss)) : mq_G p l e R s m args below meth c Q nL E D cl A ad0 refs0 (pc) (lv) (.inr (.inl (some q)) :: r) (M) (cs) (ss) :=
  fun H locs ls ad refs hB hl hvl hvs => lv_ifnull C.1 C.2.1 hd (k H locs ls ad refs hB hl hvl (mq_vs_tl hvs))
theorem mq_g_ifnonnull_0 (C : mq_C p s m args c cc nL own Ts D cl tys A X) {off : Int} (hd : decode cc pc = .ok (.ifnonnull off, 3)) (k : mq_G p l e R s m args below meth c Q nL E D cl A ad0 refs0 (pc + 3) (lv) (r) (M) (cs) (ss)) : mq_G p l e R s m args below meth c Q nL E D cl A ad0 refs0 (pc) (lv) (.inr (.inl none) :: r) (M) (cs) (ss) :=
  fun H locs ls ad refs hB hl hvl hvs => lv_ifnonnullN C.1 C.2.1 hd (k H locs ls ad refs hB hl hvl (mq_vs_tl hvs))
theorem mq_g_ifnonnull_1 (C : mq_C p s m args c cc nL own Ts D cl tys A X) {q : Nat × Nat} {off : Int} (hd : decode cc pc = .ok (.ifnonnull off, 3)) (ht : (pc : Int) + off = (tgt : Int)) (k : mq_G p l e R s m args below meth c Q nL E D cl A ad0 refs0 (tgt) (lv) (r) (M) (cs) (ss)) : mq_G p l e R s m args below meth c Q nL E D cl A ad0 refs0 (pc) (lv) (.inr (.inl (some q)) :: r) (M) (cs) (ss) :=
  fun H locs ls ad refs hB hl hvl hvs => lv_ifnonnull C.1 C.2.1 hd ht (k H locs ls ad refs hB hl hvl (mq_vs_tl hvs))
theorem mq_g_ldc2 (C : mq_C p s m args c cc nL own Ts D cl tys A X) {ix : Nat} {z : Int64} (hd : decode cc pc = .ok (.ldc2_w ix, 3)) (hv : Jvm.Cond.constantLong own ix z ∈ Ts) (k : mq_G p l e R s m args below meth c Q nL E D cl A ad0 refs0 (pc + 3) (lv) (.inr (.inr z) :: r) (M) (cs) (ss)) : mq_G p l e R s m args below meth c Q nL E D cl A ad0 refs0 (pc) (lv) (r) (M) (cs) (ss) :=
  fun H locs ls ad refs hB hl hvl hvs => lv_ldc2 C.1 C.2.1 C.2.2.2.1 (C.2.2.2.2.1 _ hv) hd (k H locs ls ad refs hB hl hvl (mq_vs_long hvs))
theorem mq_g_land (C : mq_C p s m args c cc nL own Ts D cl tys A X) {x y : Int64} (hd : decode cc pc = .ok (.land, 1)) (k : mq_G p l e R s m args below meth c Q nL E D cl A ad0 refs0 (pc + 1) (lv) (.inr (.inr (x &&& y)) :: r) (M) (cs) (ss)) : mq_G p l e R s m args below meth c Q nL E D cl A ad0 refs0 (pc) (lv) (.inr (.inr y) :: .inr (.inr x) :: r) (M) (cs) (ss) :=
  fun H locs ls ad refs hB hl hvl hvs => lv_land C.1 C.2.1 hd (k H locs ls ad refs hB hl hvl (mq_vs_long (mq_vs_tl (mq_vs_tl hvs))))
end MQG
end
section
/-! Fields and arrays of the machine, over the JVM's. -/
section MQM
variable {p : Program} {l : Launch} {e : Env} {R : Room} {s : State} {m : MethodId} {args : Array Value} {below : List Frame} {meth : Method} {c : Code} {Q : State → Prop}
variable {cc : ByteArray} {nL : Nat} {own : String} {Ts : List Cond} {D : va_G} {cl : List vw_C} {tys : List (ClassId × FieldType)} {A : Nat → Prop} {X : State → Prop} {E : mEv} {ad0 : Nat × Nat → Nat} {refs0 : List (Nat × Nat)}
variable {pc tgt i k b ix ci N n t0 : Nat} {lv : List (Nat × mLV)} {r : List mAV} {M : mMm} {cs ss : Nat} {x y : Int32} {q : Nat × Nat} {C1 : String} {T : u_T}
theorem mq_in (h9 : (E.1 999).1 = 9) {refs : List (Nat × Nat)} {t : Nat × Nat × Nat} (hv : mq_vr refs q) (ht : E.1 q.1 = t) (h : t.1 ≠ 9) : q ∈ refs := by
  rcases hv with hv | hv
  · exact hv
  · subst hv
    exact absurd (by rw [← ht]; exact h9) h
theorem mq_cvt {w w' : va_W} {H1 : Heap} (h : w = w') (hP : va_P D cl w H1) (hD : va_D A w) : va_P D cl w' H1 ∧ va_D A w' := by
  subst h; exact ⟨hP, hD⟩
theorem mq_ce0 {ad : Nat × Nat → Nat} (hk : E.1 q.1 = (0, ci, N)) : mq_ce E ad M q = .inr (ci, (List.range N).map (mq_fv E ad M q)) := by
  simp only [mq_ce, hk]
theorem mq_ceS {ad : Nat × Nat → Nat} {t : Nat} (ht : t = 1 ∨ t = 4 ∨ t = 5) (hk : E.1 q.1 = (t, ci, N)) : mq_ce E ad M q = .inl (E.2.2 t, (N, .inl (M.2.1 q.1 q.2))) := by
  rcases ht with rfl | rfl | rfl <;> simp only [mq_ce, hk]
theorem mq_ce2 {ad : Nat × Nat → Nat} (hk : E.1 q.1 = (2, ci, N)) : mq_ce E ad M q = .inl (E.2.2 2, (N, .inr (.inl (M.2.2.2 q.1 q.2)))) := by
  simp only [mq_ce, hk]
theorem mq_ce3 {ad : Nat × Nat → Nat} (hk : E.1 q.1 = (3, ci, N)) : mq_ce E ad M q = .inl (E.2.2 (100 + ci), (N, .inr (.inr (.inr (.inr (fun j => (M.2.2.1 q.1 q.2 j).map ad)))))) := by
  simp only [mq_ce, hk]
theorem mq_g_get0 (C : mq_C p s m args c cc nL own Ts D cl tys A X) (h9 : (E.1 999).1 = 9) (hk : E.1 q.1 = (0, ci, N)) (hc : cl[ci]? = some (C1, T, N)) (hin : ∀ w ∈ u_ws C1 T N, w ∈ Ts) (hb : b < N) (hr : E.2.1 ci b = false) (hlink : Jvm.Cond.fieldLink own ix (T b).1 (T b).2.1 (T b).2.2.1 ∈ Ts) (hd : decode cc pc = .ok (.getfield ix, 3))
    (kk : mq_G p l e R s m args below meth c Q nL E D cl A ad0 refs0 (pc + 3) lv (.inl (M.2.1 q.1 q.2 b) :: r) M cs ss) : mq_G p l e R s m args below meth c Q nL E D cl A ad0 refs0 pc lv (.inr (.inl (some q)) :: r) M cs ss := by
  intro H locs ls ad refs hB hl hvl hvs
  have hm : q ∈ refs := mq_in h9 (hvs q List.mem_cons_self) hk (Nat.ne_of_beq_eq_false rfl)
  obtain ⟨j, hj⟩ := List.getElem?_of_mem hm
  have he := mq_W_at (E := E) (ad := ad) (M := M) hj
  rw [mq_ce0 hk] at he
  refine va_get (v := .int (M.2.1 q.1 q.2 b)) C.1 C.2.1 C.2.2.2.2.1 hin C.2.2.2.1 C.2.2.2.2.2.1 hB.1 j he hc b hb (C.2.2.2.2.1 _ hlink) (fun _ h => h) ?_ hd (kk H locs ls ad refs hB hl hvl (mq_vs_int (mq_vs_tl hvs)))
  rw [mq_range_at hb]
  simp only [mq_fv, hk, hr, Bool.false_eq_true, if_false]
theorem mq_g_get1 (C : mq_C p s m args c cc nL own Ts D cl tys A X) (h9 : (E.1 999).1 = 9) (hk : E.1 q.1 = (0, ci, N)) (hc : cl[ci]? = some (C1, T, N)) (hin : ∀ w ∈ u_ws C1 T N, w ∈ Ts) (hb : b < N) (hr : E.2.1 ci b = true) (hlink : Jvm.Cond.fieldLink own ix (T b).1 (T b).2.1 (T b).2.2.1 ∈ Ts) (hd : decode cc pc = .ok (.getfield ix, 3))
    (kk : mq_G p l e R s m args below meth c Q nL E D cl A ad0 refs0 (pc + 3) lv (.inr (.inl (M.2.2.1 q.1 q.2 b)) :: r) M cs ss) : mq_G p l e R s m args below meth c Q nL E D cl A ad0 refs0 pc lv (.inr (.inl (some q)) :: r) M cs ss := by
  intro H locs ls ad refs hB hl hvl hvs
  have hm : q ∈ refs := mq_in h9 (hvs q List.mem_cons_self) hk (Nat.ne_of_beq_eq_false rfl)
  obtain ⟨j, hj⟩ := List.getElem?_of_mem hm
  have he := mq_W_at (E := E) (ad := ad) (M := M) hj
  rw [mq_ce0 hk] at he
  refine va_get (v := va_rf ((M.2.2.1 q.1 q.2 b).map ad)) C.1 C.2.1 C.2.2.2.2.1 hin C.2.2.2.1 C.2.2.2.2.2.1 hB.1 j he hc b hb (C.2.2.2.2.1 _ hlink) (fun _ h => h) ?_ hd (kk H locs ls ad refs hB hl hvl (mq_vs_cons (mq_vs_tl hvs) (fun r' e => ?_)))
  · rw [mq_range_at hb]
    simp only [mq_fv, hk, hr, if_true]
  · exact Or.inl (hB.2.2.2.1.2 q hm b (by rw [hk]; exact hb) r' (by injection e with e; injection e))
/-- the world behind a write to the ints of one cell -/
theorem mq_B_up {ad : Nat × Nat → Nat} {refs : List (Nat × Nat)} {H H1 : Heap} {locs locs1 : List Loc} {M' : mMm} (hB : mq_B E D cl A s ad0 refs0 ad refs M H locs) (h1 : M'.1 = M.1) (h2 : ∀ r, r ∈ refs → ∀ j, j < (E.1 r.1).2.2 → ∀ r', M'.2.2.1 r.1 r.2 j = some r' → r' ∈ refs) (hP : va_P D cl (mq_W E ad refs M') H1) (hD : va_D A (mq_W E ad refs M')) (hS : va_S A s.heap H1 locs1) : mq_B E D cl A s ad0 refs0 ad refs M' H1 locs1 :=
  ⟨hP, hD, hS, ⟨fun r => by rw [h1]; exact hB.2.2.2.1.1 r, h2⟩, hB.2.2.2.2.1, hB.2.2.2.2.2⟩
theorem mq_g_put0 (C : mq_C p s m args c cc nL own Ts D cl tys A X) (h9 : (E.1 999).1 = 9) (hk : E.1 q.1 = (0, ci, N)) (hc : cl[ci]? = some (C1, T, N)) (hin : ∀ w ∈ u_ws C1 T N, w ∈ Ts) (ty0 : Nat → FieldType) (hty : ∀ k, k < N → parseFieldDescriptor (T k).2.2.1 = some (ty0 k)) (hnm : ∀ a, a < N → ∀ b, b < N → a ≠ b → (T a).2.1 ≠ (T b).2.1) (hb : b < N) (hr : E.2.1 ci b = false) (hlink : Jvm.Cond.fieldLink own ix (T b).1 (T b).2.1 (T b).2.2.1 ∈ Ts) (hfin : (T b).2.2.2 = false ∨ ((T b).2.2.2 = true ∧ meth.name = "<init>" ∧ (T b).1 = own)) (hn : narrow (ty0 b) (.int x) = .int x) (hft : fits (ty0 b) (.int x) = true) (hd : decode cc pc = .ok (.putfield ix, 3))
    (kk : mq_G p l e R s m args below meth c Q nL E D cl A ad0 refs0 (pc + 3) lv r (M.1, mq_up M.2.1 q.1 q.2 b x, M.2.2) cs ss) : mq_G p l e R s m args below meth c Q nL E D cl A ad0 refs0 pc lv (.inl x :: .inr (.inl (some q)) :: r) M cs ss := by
  intro H locs ls ad refs hB hl hvl hvs
  have hm : q ∈ refs := mq_in h9 (hvs q (List.mem_cons_of_mem _ List.mem_cons_self)) hk (Nat.ne_of_beq_eq_false rfl)
  obtain ⟨j, hj⟩ := List.getElem?_of_mem hm
  have he := mq_W_at (E := E) (ad := ad) (M := M) hj
  rw [mq_ce0 hk] at he
  have hset : (mq_W E ad refs M).set j (ad q, .inr (ci, ((List.range N).map (mq_fv E ad M q)).set b (.int x))) = mq_W E ad refs (M.1, mq_up M.2.1 q.1 q.2 b x, M.2.2) := by
    refine mq_W_set hB.2.1 hj (fun r' hr' => mq_ce_eq (mq_up_ne (by exact hr')) rfl rfl) ?_
    rw [mq_ce0 hk, mq_range_set hb]
    congr 2
    apply List.map_congr_left
    intro j' _
    by_cases hjb : j' = b
    · subst hjb
      simp only [mq_fv, hk, hr, Bool.false_eq_true, if_false, if_true, mq_up_at]
    · simp only [mq_fv, mq_up_at, hjb, if_false]
  rcases hfin with hfin | ⟨hfin, hin2, hdecl⟩
  · refine va_put (ty := ty0 b) C.1 C.2.1 C.2.2.2.2.1 hin ty0 hty hnm C.2.2.2.1 C.2.2.2.2.2.1 hB.1 hB.2.1 hB.2.2.1 j he hc b hb (C.2.2.2.2.1 _ hlink) (fun _ h => h) hfin (hty b hb) hn hft (by simpa using hb) hd (fun H1 locs1 hP hD hS => ?_)
    obtain ⟨hP, hD⟩ := mq_cvt hset hP hD
    exact kk H1 locs1 ls ad refs (mq_B_up hB rfl hB.2.2.2.1.2 hP hD hS) hl hvl (mq_vs_tl (mq_vs_tl hvs))
  · refine va_putF (ty := ty0 b) C.1 C.2.1 C.2.2.2.2.1 hin ty0 hty hnm C.2.2.2.1 C.2.2.2.2.2.1 hB.1 hB.2.1 hB.2.2.1 j he hc b hb (C.2.2.2.2.1 _ hlink) (fun _ h => h) hfin hin2 hdecl (hty b hb) hn hft (by simpa using hb) hd (fun H1 locs1 hP hD hS => ?_)
    obtain ⟨hP, hD⟩ := mq_cvt hset hP hD
    exact kk H1 locs1 ls ad refs (mq_B_up hB rfl hB.2.2.2.1.2 hP hD hS) hl hvl (mq_vs_tl (mq_vs_tl hvs))
theorem mq_V_up {refs : List (Nat × Nat)} {w : mRf} (hV : mq_V E M refs) (hw : ∀ r, w = some r → r ∈ refs) : ∀ r, r ∈ refs → ∀ j, j < (E.1 r.1).2.2 → ∀ r', mq_up M.2.2.1 q.1 q.2 b w r.1 r.2 j = some r' → r' ∈ refs := by
  intro r hr j hj r' h
  unfold mq_up at h
  split at h
  · exact hw r' h
  · exact hV.2 r hr j hj r' h
theorem mq_g_put1 (C : mq_C p s m args c cc nL own Ts D cl tys A X) (h9 : (E.1 999).1 = 9) {w : mRf} (hw9 : w ≠ some mq_sr) (hk : E.1 q.1 = (0, ci, N)) (hc : cl[ci]? = some (C1, T, N)) (hin : ∀ w ∈ u_ws C1 T N, w ∈ Ts) (ty0 : Nat → FieldType) (hty : ∀ k, k < N → parseFieldDescriptor (T k).2.2.1 = some (ty0 k)) (hnm : ∀ a, a < N → ∀ b, b < N → a ≠ b → (T a).2.1 ≠ (T b).2.1) (hb : b < N) (hr : E.2.1 ci b = true) (hlink : Jvm.Cond.fieldLink own ix (T b).1 (T b).2.1 (T b).2.2.1 ∈ Ts) (hfin : (T b).2.2.2 = false ∨ ((T b).2.2.2 = true ∧ meth.name = "<init>" ∧ (T b).1 = own)) (hrt : (∃ n, ty0 b = .object n) ∨ ∃ t, ty0 b = .array t) (hd : decode cc pc = .ok (.putfield ix, 3))
    (kk : mq_G p l e R s m args below meth c Q nL E D cl A ad0 refs0 (pc + 3) lv r (M.1, M.2.1, mq_up M.2.2.1 q.1 q.2 b w, M.2.2.2) cs ss) : mq_G p l e R s m args below meth c Q nL E D cl A ad0 refs0 pc lv (.inr (.inl w) :: .inr (.inl (some q)) :: r) M cs ss := by
  intro H locs ls ad refs hB hl hvl hvs
  have hm : q ∈ refs := mq_in h9 (hvs q (List.mem_cons_of_mem _ List.mem_cons_self)) hk (Nat.ne_of_beq_eq_false rfl)
  have hw : ∀ r, w = some r → r ∈ refs := fun r' h => by
    subst h
    rcases hvs r' List.mem_cons_self with h | h
    · exact h
    · exact absurd (by rw [h]) hw9
  obtain ⟨j, hj⟩ := List.getElem?_of_mem hm
  have he := mq_W_at (E := E) (ad := ad) (M := M) hj
  rw [mq_ce0 hk] at he
  have hset : (mq_W E ad refs M).set j (ad q, .inr (ci, ((List.range N).map (mq_fv E ad M q)).set b (va_rf (w.map ad)))) = mq_W E ad refs (M.1, M.2.1, mq_up M.2.2.1 q.1 q.2 b w, M.2.2.2) := by
    refine mq_W_set hB.2.1 hj (fun r' hr' => mq_ce_eq rfl (mq_up_ne (by exact hr')) rfl) ?_
    rw [mq_ce0 hk, mq_range_set hb]
    congr 2
    apply List.map_congr_left
    intro j' _
    by_cases hjb : j' = b
    · subst hjb
      simp only [mq_fv, hk, hr, if_true, mq_up_at]
    · simp only [mq_fv, mq_up_at, hjb, if_false]
  have hn : narrow (ty0 b) (va_rf (w.map ad)) = va_rf (w.map ad) := by
    rcases hrt with ⟨n, h⟩ | ⟨n, h⟩ <;> rw [h] <;> rcases w with _ | w <;> rfl
  have hft : fits (ty0 b) (va_rf (w.map ad)) = true := by
    rcases hrt with ⟨n, h⟩ | ⟨n, h⟩ <;> rw [h] <;> rcases w with _ | w <;> rfl
  rcases hfin with hfin | ⟨hfin, hin2, hdecl⟩
  · refine va_put (ty := ty0 b) C.1 C.2.1 C.2.2.2.2.1 hin ty0 hty hnm C.2.2.2.1 C.2.2.2.2.2.1 hB.1 hB.2.1 hB.2.2.1 j he hc b hb (C.2.2.2.2.1 _ hlink) (fun _ h => h) hfin (hty b hb) hn hft (by simpa using hb) hd (fun H1 locs1 hP hD hS => ?_)
    obtain ⟨hP, hD⟩ := mq_cvt hset hP hD
    exact kk H1 locs1 ls ad refs (mq_B_up hB rfl (mq_V_up hB.2.2.2.1 hw) hP hD hS) hl hvl (mq_vs_tl (mq_vs_tl hvs))
  · refine va_putF (ty := ty0 b) C.1 C.2.1 C.2.2.2.2.1 hin ty0 hty hnm C.2.2.2.1 C.2.2.2.2.2.1 hB.1 hB.2.1 hB.2.2.1 j he hc b hb (C.2.2.2.2.1 _ hlink) (fun _ h => h) hfin hin2 hdecl (hty b hb) hn hft (by simpa using hb) hd (fun H1 locs1 hP hD hS => ?_)
    obtain ⟨hP, hD⟩ := mq_cvt hset hP hD
    exact kk H1 locs1 ls ad refs (mq_B_up hB rfl (mq_V_up hB.2.2.2.1 hw) hP hD hS) hl hvl (mq_vs_tl (mq_vs_tl hvs))
/-! arrays -/
theorem mq_g_iald (C : mq_C p s m args c cc nL own Ts D cl tys A X) (h9 : (E.1 999).1 = 9) (hk : E.1 q.1 = (1, ci, N)) (ht : tys[t0]? = some (E.2.2 1, .int)) (hi : vp_in x N) (hd : decode cc pc = .ok (.iaload, 1))
    (kk : mq_G p l e R s m args below meth c Q nL E D cl A ad0 refs0 (pc + 1) lv (.inl (M.2.1 q.1 q.2 x.toNatClampNeg) :: r) M cs ss) : mq_G p l e R s m args below meth c Q nL E D cl A ad0 refs0 pc lv (.inl x :: .inr (.inl (some q)) :: r) M cs ss := by
  intro H locs ls ad refs hB hl hvl hvs
  have hm : q ∈ refs := mq_in h9 (hvs q (List.mem_cons_of_mem _ List.mem_cons_self)) hk (Nat.ne_of_beq_eq_false rfl)
  obtain ⟨j, hj⟩ := List.getElem?_of_mem hm
  have he := mq_W_at (E := E) (ad := ad) (M := M) hj
  rw [mq_ceS (.inl rfl) hk] at he
  exact va_iald C.1 C.2.1 C.2.2.2.2.2.1 hB.1 j t0 he ht hi hd (kk H locs ls ad refs hB hl hvl (mq_vs_int (mq_vs_tl (mq_vs_tl hvs))))
theorem mq_g_bald (C : mq_C p s m args c cc nL own Ts D cl tys A X) (h9 : (E.1 999).1 = 9) (hk : E.1 q.1 = (4, ci, N)) (ht : tys[t0]? = some (E.2.2 4, .byte)) (hi : vp_in x N) (hd : decode cc pc = .ok (.baload, 1))
    (kk : mq_G p l e R s m args below meth c Q nL E D cl A ad0 refs0 (pc + 1) lv (.inl (M.2.1 q.1 q.2 x.toNatClampNeg) :: r) M cs ss) : mq_G p l e R s m args below meth c Q nL E D cl A ad0 refs0 pc lv (.inl x :: .inr (.inl (some q)) :: r) M cs ss := by
  intro H locs ls ad refs hB hl hvl hvs
  have hm : q ∈ refs := mq_in h9 (hvs q (List.mem_cons_of_mem _ List.mem_cons_self)) hk (Nat.ne_of_beq_eq_false rfl)
  obtain ⟨j, hj⟩ := List.getElem?_of_mem hm
  have he := mq_W_at (E := E) (ad := ad) (M := M) hj
  rw [mq_ceS (.inr (.inl rfl)) hk] at he
  exact va_bald C.1 C.2.1 C.2.2.2.2.2.1 hB.1 j t0 he ht hi hd (kk H locs ls ad refs hB hl hvl (mq_vs_int (mq_vs_tl (mq_vs_tl hvs))))
theorem mq_g_zald (C : mq_C p s m args c cc nL own Ts D cl tys A X) (h9 : (E.1 999).1 = 9) (hk : E.1 q.1 = (5, ci, N)) (ht : tys[t0]? = some (E.2.2 5, .boolean)) (hi : vp_in x N) (hd : decode cc pc = .ok (.baload, 1))
    (kk : mq_G p l e R s m args below meth c Q nL E D cl A ad0 refs0 (pc + 1) lv (.inl (M.2.1 q.1 q.2 x.toNatClampNeg) :: r) M cs ss) : mq_G p l e R s m args below meth c Q nL E D cl A ad0 refs0 pc lv (.inl x :: .inr (.inl (some q)) :: r) M cs ss := by
  intro H locs ls ad refs hB hl hvl hvs
  have hm : q ∈ refs := mq_in h9 (hvs q (List.mem_cons_of_mem _ List.mem_cons_self)) hk (Nat.ne_of_beq_eq_false rfl)
  obtain ⟨j, hj⟩ := List.getElem?_of_mem hm
  have he := mq_W_at (E := E) (ad := ad) (M := M) hj
  rw [mq_ceS (.inr (.inr rfl)) hk] at he
  exact va_zald C.1 C.2.1 C.2.2.2.2.2.1 hB.1 j t0 he ht hi hd (kk H locs ls ad refs hB hl hvl (mq_vs_int (mq_vs_tl (mq_vs_tl hvs))))
theorem mq_g_lald (C : mq_C p s m args c cc nL own Ts D cl tys A X) (h9 : (E.1 999).1 = 9) (hk : E.1 q.1 = (2, ci, N)) (ht : tys[t0]? = some (E.2.2 2, .long)) (hi : vp_in x N) (hd : decode cc pc = .ok (.laload, 1))
    (kk : mq_G p l e R s m args below meth c Q nL E D cl A ad0 refs0 (pc + 1) lv (.inr (.inr (M.2.2.2 q.1 q.2 x.toNatClampNeg)) :: r) M cs ss) : mq_G p l e R s m args below meth c Q nL E D cl A ad0 refs0 pc lv (.inl x :: .inr (.inl (some q)) :: r) M cs ss := by
  intro H locs ls ad refs hB hl hvl hvs
  have hm : q ∈ refs := mq_in h9 (hvs q (List.mem_cons_of_mem _ List.mem_cons_self)) hk (Nat.ne_of_beq_eq_false rfl)
  obtain ⟨j, hj⟩ := List.getElem?_of_mem hm
  have he := mq_W_at (E := E) (ad := ad) (M := M) hj
  rw [mq_ce2 hk] at he
  exact va_lald C.1 C.2.1 C.2.2.2.2.2.1 hB.1 j t0 he ht hi hd (kk H locs ls ad refs hB hl hvl (mq_vs_long (mq_vs_tl (mq_vs_tl hvs))))
theorem mq_g_aald (C : mq_C p s m args c cc nL own Ts D cl tys A X) (h9 : (E.1 999).1 = 9) (hk : E.1 q.1 = (3, ci, N)) (ht : tys[t0]? = some (E.2.2 (100 + ci), .object C1)) (hi : vp_in x N) (hd : decode cc pc = .ok (.aaload, 1))
    (kk : mq_G p l e R s m args below meth c Q nL E D cl A ad0 refs0 (pc + 1) lv (.inr (.inl (M.2.2.1 q.1 q.2 x.toNatClampNeg)) :: r) M cs ss) : mq_G p l e R s m args below meth c Q nL E D cl A ad0 refs0 pc lv (.inl x :: .inr (.inl (some q)) :: r) M cs ss := by
  intro H locs ls ad refs hB hl hvl hvs
  have hm : q ∈ refs := mq_in h9 (hvs q (List.mem_cons_of_mem _ List.mem_cons_self)) hk (Nat.ne_of_beq_eq_false rfl)
  obtain ⟨j, hj⟩ := List.getElem?_of_mem hm
  have he := mq_W_at (E := E) (ad := ad) (M := M) hj
  rw [mq_ce3 hk] at he
  have hlt : x.toNatClampNeg < N := Nat.not_le.mp fun z => hi (Or.inr z)
  exact va_aldq C.1 C.2.1 C.2.2.2.2.2.1 hB.1 j t0 he ht hi hd (kk H locs ls ad refs hB hl hvl (mq_vs_cons (mq_vs_tl (mq_vs_tl hvs)) (fun r' e => Or.inl (hB.2.2.2.1.2 q hm _ (by rw [hk]; exact hlt) r' (by injection e with e; injection e)))))
theorem mq_g_iast (C : mq_C p s m args c cc nL own Ts D cl tys A X) (h9 : (E.1 999).1 = 9) (hk : E.1 q.1 = (1, ci, N)) (ht : tys[t0]? = some (E.2.2 1, .int)) (hi : vp_in y N) (hd : decode cc pc = .ok (.iastore, 1))
    (kk : mq_G p l e R s m args below meth c Q nL E D cl A ad0 refs0 (pc + 1) lv r (M.1, mq_up M.2.1 q.1 q.2 y.toNatClampNeg x, M.2.2) cs ss) : mq_G p l e R s m args below meth c Q nL E D cl A ad0 refs0 pc lv (.inl x :: .inl y :: .inr (.inl (some q)) :: r) M cs ss := by
  intro H locs ls ad refs hB hl hvl hvs
  have hm : q ∈ refs := mq_in h9 (hvs q (List.mem_cons_of_mem _ (List.mem_cons_of_mem _ List.mem_cons_self))) hk (Nat.ne_of_beq_eq_false rfl)
  obtain ⟨j, hj⟩ := List.getElem?_of_mem hm
  have he := mq_W_at (E := E) (ad := ad) (M := M) hj
  rw [mq_ceS (.inl rfl) hk] at he
  refine va_iast C.1 C.2.1 C.2.2.2.2.2.1 hB.1 hB.2.1 hB.2.2.1 j t0 he ht hi hd (fun H1 locs1 hP hD hS => ?_)
  have hset : (mq_W E ad refs M).set j (ad q, .inl (E.2.2 1, N, .inl (upd (M.2.1 q.1 q.2) y.toNatClampNeg x))) = mq_W E ad refs (M.1, mq_up M.2.1 q.1 q.2 y.toNatClampNeg x, M.2.2) := by
    refine mq_W_set hB.2.1 hj (fun r' hr' => mq_ce_eq (mq_up_ne (by exact hr')) rfl rfl) ?_
    rw [mq_ceS (.inl rfl) hk]
    simp only [mq_up_at]
    rfl
  obtain ⟨hP, hD⟩ := mq_cvt hset hP hD
  exact kk H1 locs1 ls ad refs (mq_B_up hB rfl hB.2.2.2.1.2 hP hD hS) hl hvl (mq_vs_tl (mq_vs_tl (mq_vs_tl hvs)))
theorem mq_g_bast (C : mq_C p s m args c cc nL own Ts D cl tys A X) (h9 : (E.1 999).1 = 9) (hk : E.1 q.1 = (4, ci, N)) (ht : tys[t0]? = some (E.2.2 4, .byte)) (hi : vp_in y N) (hd : decode cc pc = .ok (.bastore, 1))
    (kk : mq_G p l e R s m args below meth c Q nL E D cl A ad0 refs0 (pc + 1) lv r (M.1, mq_up M.2.1 q.1 q.2 y.toNatClampNeg x.toInt8.toInt32, M.2.2) cs ss) : mq_G p l e R s m args below meth c Q nL E D cl A ad0 refs0 pc lv (.inl x :: .inl y :: .inr (.inl (some q)) :: r) M cs ss := by
  intro H locs ls ad refs hB hl hvl hvs
  have hm : q ∈ refs := mq_in h9 (hvs q (List.mem_cons_of_mem _ (List.mem_cons_of_mem _ List.mem_cons_self))) hk (Nat.ne_of_beq_eq_false rfl)
  obtain ⟨j, hj⟩ := List.getElem?_of_mem hm
  have he := mq_W_at (E := E) (ad := ad) (M := M) hj
  rw [mq_ceS (.inr (.inl rfl)) hk] at he
  refine va_bast C.1 C.2.1 C.2.2.2.2.2.1 hB.1 hB.2.1 hB.2.2.1 j t0 he ht hi hd (fun H1 locs1 hP hD hS => ?_)
  have hset : (mq_W E ad refs M).set j (ad q, .inl (E.2.2 4, N, .inl (upd (M.2.1 q.1 q.2) y.toNatClampNeg x.toInt8.toInt32))) = mq_W E ad refs (M.1, mq_up M.2.1 q.1 q.2 y.toNatClampNeg x.toInt8.toInt32, M.2.2) := by
    refine mq_W_set hB.2.1 hj (fun r' hr' => mq_ce_eq (mq_up_ne (by exact hr')) rfl rfl) ?_
    rw [mq_ceS (.inr (.inl rfl)) hk]
    simp only [mq_up_at]
    rfl
  rw [vp_nar_byte] at hP hD
  obtain ⟨hP, hD⟩ := mq_cvt hset hP hD
  exact kk H1 locs1 ls ad refs (mq_B_up hB rfl hB.2.2.2.1.2 hP hD hS) hl hvl (mq_vs_tl (mq_vs_tl (mq_vs_tl hvs)))
theorem mq_g_zast (C : mq_C p s m args c cc nL own Ts D cl tys A X) (h9 : (E.1 999).1 = 9) (hk : E.1 q.1 = (5, ci, N)) (ht : tys[t0]? = some (E.2.2 5, .boolean)) (hi : vp_in y N) (hx : x = 0 ∨ x = 1) (hd : decode cc pc = .ok (.bastore, 1))
    (kk : mq_G p l e R s m args below meth c Q nL E D cl A ad0 refs0 (pc + 1) lv r (M.1, mq_up M.2.1 q.1 q.2 y.toNatClampNeg x, M.2.2) cs ss) : mq_G p l e R s m args below meth c Q nL E D cl A ad0 refs0 pc lv (.inl x :: .inl y :: .inr (.inl (some q)) :: r) M cs ss := by
  intro H locs ls ad refs hB hl hvl hvs
  have hm : q ∈ refs := mq_in h9 (hvs q (List.mem_cons_of_mem _ (List.mem_cons_of_mem _ List.mem_cons_self))) hk (Nat.ne_of_beq_eq_false rfl)
  obtain ⟨j, hj⟩ := List.getElem?_of_mem hm
  have he := mq_W_at (E := E) (ad := ad) (M := M) hj
  rw [mq_ceS (.inr (.inr rfl)) hk] at he
  refine va_zast C.1 C.2.1 C.2.2.2.2.2.1 hB.1 hB.2.1 hB.2.2.1 j t0 he ht hi hd (fun H1 locs1 hP hD hS => ?_)
  have hset : (mq_W E ad refs M).set j (ad q, .inl (E.2.2 5, N, .inl (upd (M.2.1 q.1 q.2) y.toNatClampNeg x))) = mq_W E ad refs (M.1, mq_up M.2.1 q.1 q.2 y.toNatClampNeg x, M.2.2) := by
    refine mq_W_set hB.2.1 hj (fun r' hr' => mq_ce_eq (mq_up_ne (by exact hr')) rfl rfl) ?_
    rw [mq_ceS (.inr (.inr rfl)) hk]
    simp only [mq_up_at]
    rfl
  have hnx : vp_nar .boolean x = x := by rcases hx with rfl | rfl <;> rfl
  rw [hnx] at hP hD
  obtain ⟨hP, hD⟩ := mq_cvt hset hP hD
  exact kk H1 locs1 ls ad refs (mq_B_up hB rfl hB.2.2.2.1.2 hP hD hS) hl hvl (mq_vs_tl (mq_vs_tl (mq_vs_tl hvs)))
theorem mq_g_last (C : mq_C p s m args c cc nL own Ts D cl tys A X) (h9 : (E.1 999).1 = 9) {z : Int64} (hk : E.1 q.1 = (2, ci, N)) (ht : tys[t0]? = some (E.2.2 2, .long)) (hi : vp_in y N) (hd : decode cc pc = .ok (.lastore, 1))
    (kk : mq_G p l e R s m args below meth c Q nL E D cl A ad0 refs0 (pc + 1) lv r (M.1, M.2.1, M.2.2.1, mq_up M.2.2.2 q.1 q.2 y.toNatClampNeg z) cs ss) : mq_G p l e R s m args below meth c Q nL E D cl A ad0 refs0 pc lv (.inr (.inr z) :: .inl y :: .inr (.inl (some q)) :: r) M cs ss := by
  intro H locs ls ad refs hB hl hvl hvs
  have hm : q ∈ refs := mq_in h9 (hvs q (List.mem_cons_of_mem _ (List.mem_cons_of_mem _ List.mem_cons_self))) hk (Nat.ne_of_beq_eq_false rfl)
  obtain ⟨j, hj⟩ := List.getElem?_of_mem hm
  have he := mq_W_at (E := E) (ad := ad) (M := M) hj
  rw [mq_ce2 hk] at he
  refine va_last C.1 C.2.1 C.2.2.2.2.2.1 hB.1 hB.2.1 hB.2.2.1 j t0 he ht hi hd (fun H1 locs1 hP hD hS => ?_)
  have hset : (mq_W E ad refs M).set j (ad q, .inl (E.2.2 2, N, .inr (.inl (vp_updL (M.2.2.2 q.1 q.2) y.toNatClampNeg z)))) = mq_W E ad refs (M.1, M.2.1, M.2.2.1, mq_up M.2.2.2 q.1 q.2 y.toNatClampNeg z) := by
    refine mq_W_set hB.2.1 hj (fun r' hr' => mq_ce_eq rfl rfl (mq_up_ne (by exact hr'))) ?_
    rw [mq_ce2 hk]
    simp only [mq_up_at]
    rfl
  obtain ⟨hP, hD⟩ := mq_cvt hset hP hD
  exact kk H1 locs1 ls ad refs (mq_B_up hB rfl hB.2.2.2.1.2 hP hD hS) hl hvl (mq_vs_tl (mq_vs_tl (mq_vs_tl hvs)))
theorem mq_g_aast (C : mq_C p s m args c cc nL own Ts D cl tys A X) (h9 : (E.1 999).1 = 9) {w : Nat × Nat} {N1 : Nat} (hk : E.1 q.1 = (3, ci, N)) (hkw : E.1 w.1 = (0, ci, N1)) (hc : cl[ci]? = some (C1, T, N1)) (ht : tys[t0]? = some (E.2.2 (100 + ci), .object C1)) (hi : vp_in y N) (hd : decode cc pc = .ok (.aastore, 1))
    (kk : mq_G p l e R s m args below meth c Q nL E D cl A ad0 refs0 (pc + 1) lv r (M.1, M.2.1, mq_up M.2.2.1 q.1 q.2 y.toNatClampNeg (some w), M.2.2.2) cs ss) : mq_G p l e R s m args below meth c Q nL E D cl A ad0 refs0 pc lv (.inr (.inl (some w)) :: .inl y :: .inr (.inl (some q)) :: r) M cs ss := by
  intro H locs ls ad refs hB hl hvl hvs
  have hm : q ∈ refs := mq_in h9 (hvs q (List.mem_cons_of_mem _ (List.mem_cons_of_mem _ List.mem_cons_self))) hk (Nat.ne_of_beq_eq_false rfl)
  have hmw : w ∈ refs := mq_in h9 (hvs w List.mem_cons_self) hkw (Nat.ne_of_beq_eq_false rfl)
  obtain ⟨j, hj⟩ := List.getElem?_of_mem hm
  obtain ⟨jw, hjw⟩ := List.getElem?_of_mem hmw
  have he := mq_W_at (E := E) (ad := ad) (M := M) hj
  have hew := mq_W_at (E := E) (ad := ad) (M := M) hjw
  rw [mq_ce3 hk] at he
  rw [mq_ce0 hkw] at hew
  refine va_astq (r := (C1, T, N1)) C.1 C.2.1 C.2.2.2.2.2.1 hB.1 hB.2.1 hB.2.2.1 j t0 jw ci he ht hew hc hi hd (fun H1 locs1 hP hD hS => ?_)
  have hset : (mq_W E ad refs M).set j (ad q, .inl (E.2.2 (100 + ci), N, .inr (.inr (.inr (.inr (va_up (fun j => (M.2.2.1 q.1 q.2 j).map ad) y.toNatClampNeg (some (ad w)))))))) = mq_W E ad refs (M.1, M.2.1, mq_up M.2.2.1 q.1 q.2 y.toNatClampNeg (some w), M.2.2.2) := by
    refine mq_W_set hB.2.1 hj (fun r' hr' => mq_ce_eq rfl (mq_up_ne (by exact hr')) rfl) ?_
    rw [mq_ce3 hk]
    congr 7
    funext j'
    by_cases hjb : j' = y.toNatClampNeg
    · simp only [mq_up_at, va_up, hjb, if_true, Option.map_some]
    · simp only [mq_up_at, va_up, hjb, if_false]
  obtain ⟨hP, hD⟩ := mq_cvt hset hP hD
  exact kk H1 locs1 ls ad refs (mq_B_up hB rfl (mq_V_up hB.2.2.2.1 (fun r' h => by cases h; exact hmw)) hP hD hS) hl hvl (mq_vs_tl (mq_vs_tl (mq_vs_tl hvs)))
theorem mq_g_alen {cA : ClassId} {ty : FieldType} {z : vp_A} (C : mq_C p s m args c cc nL own Ts D cl tys A X) (h9 : (E.1 999).1 = 9) {t : Nat × Nat × Nat} (hk : E.1 q.1 = t) (h9' : t.1 ≠ 9) (hz : ∀ ad, mq_ce E ad M q = .inl (cA, z)) (hz1 : z.1 = t.2.2) (ht : tys[t0]? = some (cA, ty)) (hd : decode cc pc = .ok (.arraylength, 1))
    (kk : mq_G p l e R s m args below meth c Q nL E D cl A ad0 refs0 (pc + 1) lv (.inl (Int32.ofNat t.2.2) :: r) M cs ss) : mq_G p l e R s m args below meth c Q nL E D cl A ad0 refs0 pc lv (.inr (.inl (some q)) :: r) M cs ss := by
  intro H locs ls ad refs hB hl hvl hvs
  have hm : q ∈ refs := mq_in h9 (hvs q List.mem_cons_self) hk h9'
  obtain ⟨j, hj⟩ := List.getElem?_of_mem hm
  have he := mq_W_at (E := E) (ad := ad) (M := M) hj
  rw [hz ad] at he
  exact va_alen C.1 C.2.1 C.2.2.2.2.2.1 hB.1 j t0 he ht (by rw [hz1]) hd (kk H locs ls ad refs hB hl hvl (mq_vs_int (mq_vs_tl hvs)))
end MQM
end
section
/-! Ends and calls of the machine, over the JVM's. -/
/-- how a method ends: its answer, the memory behind it at the old places, and new cells behind those -/
def mq_Qc (E : mEv) (D : va_G) (cl : List vw_C) (tys : List (ClassId × FieldType)) (A : Nat → Prop) (ad0 : Nat × Nat → Nat) (refs0 : List (Nat × Nat)) (rv : Option mLV) (M' : mMm) : Array Value → State → Outcome → State → Prop := fun _ st oc t =>
  (∃ (ad : Nat × Nat → Nat) (refs : List (Nat × Nat)), oc = .returned (rv.map (mq_cl ad)) ∧ (∀ r, r ∈ refs0 → r ∈ refs) ∧ (∀ r, mq_vr refs0 r → ad r = ad0 r) ∧ va_P D cl (mq_W E ad refs M') t.heap ∧ va_K D cl tys t ∧ va_D A (mq_W E ad refs M') ∧ mq_V E M' refs ∧ ∀ r, rv = some (.inr (some r)) → mq_vr refs r) ∧ va_F A st t
/-- how it starts -/
def mq_Pc (X : State → Prop) (E : mEv) (D : va_G) (cl : List vw_C) (tys : List (ClassId × FieldType)) (sz : Nat) (ad : Nat × Nat → Nat) (refs : List (Nat × Nat)) (as : List mLV) (M : mMm) : Array Value → State → Prop :=
  va_Pc (as.map (mq_cl ad)) (fun U => U.heap.size = sz ∧ va_P D cl (mq_W E ad refs M) U.heap ∧ va_K D cl tys U ∧ va_D (fun _ => True) (mq_W E ad refs M) ∧ X U)
/-- a method's contract at these arguments and this memory -/
def mq_Met (l : Launch) (X : State → Prop) (E : mEv) (D : va_G) (cl : List vw_C) (tys : List (ClassId × FieldType)) (y : MethodName) (ws : List Cond) (rm : Room) (mc ms : Nat) (as : List mLV) (M : mMm) (rv : Option mLV) (M' : mMm) : Prop :=
  ∀ (ad : Nat × Nat → Nat) (refs : List (Nat × Nat)) (sz : Nat), mq_V E M refs → (∀ r, (.inr (some r) : mLV) ∈ as → mq_vr refs r) → Met l y ws rm (mq_Pc X E D cl tys sz ad refs as M) (mq_Qc E D cl tys (va_A (mq_W E ad refs M) sz) ad refs rv M') mc ms (va_A (mq_W E ad refs M) sz)
theorem mq_blind {X : State → Prop} (hX : ∀ u U : State, u.WarmedH U.vm → X u → X U) {E : mEv} {D : va_G} {cl : List vw_C} {tys : List (ClassId × FieldType)} {sz : Nat} {ad : Nat × Nat → Nat} {refs : List (Nat × Nat)} {as : List mLV} {M : mMm} : FrameBlind (mq_Pc X E D cl tys sz ad refs as M) := by
  intro a U g mk q
  obtain ⟨q0, q1, qP, qK, qD, qX⟩ := q
  exact ⟨q0, q1, qP, va_K.moved (u := U) (U := U.calling g mk a) (Vm.Alike.refl U.vm) qK, qD, hX U _ (State.WarmedH.refl U) qX⟩
theorem mq_pop_spec : ∀ (n : Nat) (st : List mAV) (acc as : List mLV) (r : List mAV), mq_pop n st acc = some (as, r) → ∃ pre : List mLV, as = pre ++ acc ∧ pre.length = n ∧ st = (pre.map mq_toA).reverse ++ r
  | 0, st, acc, as, r, h => by
    simp only [mq_pop, Option.some.injEq, Prod.mk.injEq] at h
    exact ⟨[], by rw [← h.1]; rfl, rfl, by rw [← h.2]; rfl⟩
  | n + 1, [], acc, as, r, h => by simp [mq_pop] at h
  | n + 1, .inl x :: st, acc, as, r, h => by
    simp only [mq_pop] at h
    obtain ⟨pre, h1, h2, h3⟩ := mq_pop_spec n st _ as r h
    refine ⟨pre ++ [.inl x], by rw [h1]; simp, by simp [h2], by rw [h3]; simp [mq_toA]⟩
  | n + 1, .inr (.inl q) :: st, acc, as, r, h => by
    simp only [mq_pop] at h
    obtain ⟨pre, h1, h2, h3⟩ := mq_pop_spec n st _ as r h
    refine ⟨pre ++ [.inr q], by rw [h1]; simp, by simp [h2], by rw [h3]; simp [mq_toA]⟩
  | n + 1, .inr (.inr z) :: st, acc, as, r, h => by simp [mq_pop] at h
theorem mq_pop_st {n : Nat} {st r : List mAV} {as : List mLV} (h : mq_pop n st [] = some (as, r)) : as.length = n ∧ st = (as.map mq_toA).reverse ++ r := by
  obtain ⟨pre, h1, h2, h3⟩ := mq_pop_spec n st [] as r h
  rw [List.append_nil] at h1
  subst h1
  exact ⟨h2, h3⟩
section MQC
variable {p : Program} {l : Launch} {e : Env} {R : Room} {s : State} {m : MethodId} {args : Array Value} {below : List Frame} {meth : Method} {c : Code} {Q : State → Prop}
variable {cc : ByteArray} {nL : Nat} {own : String} {Ts : List Cond} {D : va_G} {cl : List vw_C} {tys : List (ClassId × FieldType)} {A : Nat → Prop} {X : State → Prop} {E : mEv} {ad0 : Nat × Nat → Nat} {refs0 : List (Nat × Nat)}
variable {pc tgt i k b ix ci N n t0 : Nat} {lv : List (Nat × mLV)} {r st : List mAV} {M M' : mMm} {cs ss mc ms : Nat} {x y : Int32} {q : Nat × Nat} {rv : Option mLV}
theorem mq_r_int (C : mq_C p s m args c cc nL own Ts D cl tys A X) {ty : FieldType} (hr : meth.sig.returnType = some ty) (hn : narrow ty (.int x) = .int x) (hlocks : meth.locks = false) (hcs : cs ≤ mc) (hss : ss ≤ ms) (hd : decode cc pc = .ok (.ireturn, 1)) :
    mq_G p l e R s m args below meth c (MQ below (mq_Qc E D cl tys A ad0 refs0 (some (.inl x)) M) args s mc ms A) nL E D cl A ad0 refs0 pc lv [.inl x] M cs ss := by
  intro H locs ls ad refs hB hl hvl hvs
  refine W.widen hcs hss ?_
  exact W.zret C.1 C.2.1 hr hn (fun t ht hW => ⟨⟨ad, refs, rfl, hB.2.2.2.2.1, hB.2.2.2.2.2, by rw [ht]; exact hB.1, va_K.moved hW.alike C.2.2.2.2.2.1, hB.2.1, hB.2.2.2.1, fun r h => by cases h⟩, hB.2.2.1.F ht⟩) hB.2.2.1.2.2 hd hlocks
theorem mq_r_void (C : mq_C p s m args c cc nL own Ts D cl tys A X) (hr : meth.sig.returnType = none) (hlocks : meth.locks = false) (hcs : cs ≤ mc) (hss : ss ≤ ms) (hd : decode cc pc = .ok (.return_, 1)) :
    mq_G p l e R s m args below meth c (MQ below (mq_Qc E D cl tys A ad0 refs0 none M) args s mc ms A) nL E D cl A ad0 refs0 pc lv [] M cs ss := by
  intro H locs ls ad refs hB hl hvl hvs
  refine W.widen hcs hss ?_
  exact W.vret C.1 C.2.1 hr (fun t ht hW => ⟨⟨ad, refs, rfl, hB.2.2.2.2.1, hB.2.2.2.2.2, by rw [ht]; exact hB.1, va_K.moved hW.alike C.2.2.2.2.2.1, hB.2.1, hB.2.2.2.1, fun r h => by cases h⟩, hB.2.2.1.F ht⟩) hB.2.2.1.2.2 hd hlocks
theorem mq_r_ref (C : mq_C p s m args c cc nL own Ts D cl tys A X) {w : mRf} {ty : FieldType} (hr : meth.sig.returnType = some ty) (hrt : (∃ n, ty = .object n) ∨ ∃ t, ty = .array t) (hlocks : meth.locks = false) (hcs : cs ≤ mc) (hss : ss ≤ ms) (hd : decode cc pc = .ok (.areturn, 1)) :
    mq_G p l e R s m args below meth c (MQ below (mq_Qc E D cl tys A ad0 refs0 (some (.inr w)) M) args s mc ms A) nL E D cl A ad0 refs0 pc lv [.inr (.inl w)] M cs ss := by
  intro H locs ls ad refs hB hl hvl hvs
  refine W.widen hcs hss ?_
  exact W.aret C.1 C.2.1 hr hrt (va_rf_or _) (fun t ht hW => ⟨⟨ad, refs, rfl, hB.2.2.2.2.1, hB.2.2.2.2.2, by rw [ht]; exact hB.1, va_K.moved hW.alike C.2.2.2.2.2.1, hB.2.1, hB.2.2.2.1, fun r h => by cases h; exact hvs _ List.mem_cons_self⟩, hB.2.2.1.F ht⟩) hB.2.2.1.2.2 hd hlocks
/-- behind a call -/
theorem mq_callg {H H0 : Heap} {locs : List Loc} {cells slots : Nat} {ls : Array Slot} {rest st0 : List Value} {a : Array Value} {A0 A1 : Nat → Prop} {free : Addr → Prop} {ad : Nat × Nat → Nat} {refs : List (Nat × Nat)} (hr : va_Run p l e R s m args below meth c H locs cells slots mc ms (F0 m pc ls st0) rest (mq_Qc E D cl tys A1 ad refs rv M' a) free) (hS : va_S A0 H0 H locs) (hA : ∀ q, q < H.size → A1 q → A0 q) (hf : ∀ q, free q → A0 q)
    (kk : ∀ (ad' : Nat × Nat → Nat) (refs' : List (Nat × Nat)) (t : State) (H1 : Heap) (locs1 : List Loc), t.heap = H1 → s.vm.Alike t.vm → (∀ r, r ∈ refs → r ∈ refs') → (∀ r, mq_vr refs r → ad' r = ad r) → va_P D cl (mq_W E ad' refs' M') H1 → va_D A1 (mq_W E ad' refs' M') → mq_V E M' refs' → (∀ r, rv = some (.inr (some r)) → mq_vr refs' r) → H.size ≤ H1.size → va_S A0 H0 H1 locs1 → W p l e R s m args below meth c H1 locs1 (cells + mc) (slots + ms) Q (F0 m (pc + 3) ls ((rv.map (mq_cl ad')).toList ++ rest))) : W p l e R s m args below meth c H locs cells slots Q (F0 m pc ls st0) := by
  intro T hT X
  obtain ⟨v, st₀, t, T', L, h0, X', hL, e1, e2, ⟨⟨ad', refs', hv, g1, g2, g3, g4, g5, g6, g7⟩, hz, hk⟩, st⟩ := hr T hT X
  injection hv with hv
  subst hv
  rw [h0] at hz hk
  obtain ⟨t2, a1, b1⟩ := kk ad' refs' t T'.heap (locs ++ L) e1.symm (by rw [← e2]; exact X'.warmed.alike) g1 g2 (by rw [e1]; exact g3) g5 g6 g7 (by rw [e1]; exact hz)
    ⟨Nat.le_trans hS.1 (by rw [e1]; exact hz), fun q h1 h2 => by rw [e1, hk q (Nat.lt_of_lt_of_le h1 hS.1) (fun z => h2 (hA q (Nat.lt_of_lt_of_le h1 hS.1) z))]; exact hS.2.1 q h1 h2, fun q hq => by
      rcases List.mem_append.mp hq with h | h
      · exact hS.2.2 q h
      · exact hf _ (hL q h)⟩ T' rfl X'
  exact ⟨t2, st t2 a1, b1⟩
theorem mq_lm_ad {ad ad' : Nat × Nat → Nat} {refs : List (Nat × Nat)} (h : ∀ r, mq_vr refs r → ad' r = ad r) (hv : mq_vl refs lv) : mq_lm ad' lv = mq_lm ad lv := by
  unfold mq_lm
  apply List.map_congr_left
  intro z hz
  obtain ⟨i, v⟩ := z
  rcases v with x | (_ | w)
  · rfl
  · rfl
  · have e := h w (hv i w hz)
    simp only [mq_cl, Option.map_some, e]
theorem mq_st_ad {ad ad' : Nat × Nat → Nat} {refs : List (Nat × Nat)} (h : ∀ r, mq_vr refs r → ad' r = ad r) (hv : mq_vs refs st) : st.map (mq_cv ad') = st.map (mq_cv ad) := by
  apply List.map_congr_left
  intro z hz
  rcases z with x | ((_ | w) | x)
  · rfl
  · rfl
  · have e := h w (hv w hz)
    simp only [mq_cv, Option.map_some, e]
  · rfl
theorem mq_psh_map (ad : Nat × Nat → Nat) : (mq_psh rv r).map (mq_cv ad) = (rv.map (mq_cl ad)).toList ++ r.map (mq_cv ad) := by
  rcases rv with _ | v
  · rfl
  · simp only [mq_psh, List.map_cons, mq_cv_toA, Option.map_some, Option.toList_some, List.singleton_append]
theorem mq_vr_mono {refs refs' : List (Nat × Nat)} (h : ∀ r, r ∈ refs → r ∈ refs') {w : Nat × Nat} (hw : mq_vr refs w) : mq_vr refs' w := hw.imp (h w) id
/-- a call's row out of its run at every place -/
theorem mq_g_call (C : mq_C p s m args c cc nL own Ts D cl tys A X) {as : List mLV} (hpop : mq_pop b st [] = some (as, r))
    (hrun : ∀ (H : Heap) (locs : List Loc) (ls : Array Slot) (ad : Nat × Nat → Nat) (refs : List (Nat × Nat)), mq_B E D cl A s ad0 refs0 ad refs M H locs → lv_has ls nL (mq_lm ad lv) → (∀ r, (.inr (some r) : mLV) ∈ as → mq_vr refs r) → ∃ av : Array Value, va_Run p l e R s m args below meth c H locs cs ss mc ms (F0 m pc ls ((as.map (mq_cl ad)).reverse ++ r.map (mq_cv ad))) (r.map (mq_cv ad)) (mq_Qc E D cl tys (va_A (mq_W E ad refs M) H.size) ad refs rv M' av) (va_A (mq_W E ad refs M) H.size))
    (kk : mq_G p l e R s m args below meth c Q nL E D cl A ad0 refs0 (pc + 3) lv (mq_psh rv r) M' (cs + mc) (ss + ms)) : mq_G p l e R s m args below meth c Q nL E D cl A ad0 refs0 pc lv st M cs ss := by
  intro H locs ls ad refs hB hl hvl hvs
  obtain ⟨hlen, hst⟩ := mq_pop_st hpop
  have hva : ∀ w, (.inr (some w) : mLV) ∈ as → mq_vr refs w := fun w hw => hvs w (by
    rw [hst]
    exact List.mem_append_left _ (List.mem_reverse.mpr (List.mem_map.mpr ⟨_, hw, rfl⟩)))
  have hvr : mq_vs refs r := fun w hw => hvs w (by rw [hst]; exact List.mem_append_right _ hw)
  obtain ⟨av, hR⟩ := hrun H locs ls ad refs hB hl hva
  have hmap : st.map (mq_cv ad) = (as.map (mq_cl ad)).reverse ++ r.map (mq_cv ad) := by
    rw [hst, List.map_append, List.map_reverse, List.map_map]
    congr 2
    apply List.map_congr_left
    intro v _
    exact mq_cv_toA ad v
  rw [hmap]
  have hAA : ∀ q, va_A (mq_W E ad refs M) H.size q → A q := by
    intro q hq
    rcases hq with ⟨k, e, hk⟩ | hq
    · exact hB.2.1.2 k _ hk
    · exact C.2.2.2.2.2.2.1 q (Nat.le_trans hB.2.2.1.1 hq)
  refine mq_callg hR hB.2.2.1 (fun q _ h => hAA q h) hAA (fun ad' refs' t H1 locs1 ht hvm hsub had hP hD hV hrv hz hS => ?_)
  have hw := kk H1 locs1 ls ad' refs' ⟨hP, hD.weaken (fun _ _ _ h => hAA _ h), hS, hV, fun w hw => hsub w (hB.2.2.2.2.1 w hw), fun w hw => (had w (mq_vr_mono hB.2.2.2.2.1 hw)).trans (hB.2.2.2.2.2 w hw)⟩ (by rw [mq_lm_ad had hvl]; exact hl) (fun i w h => mq_vr_mono hsub (hvl i w h)) (by
    intro w hw
    rcases rv with _ | v
    · exact mq_vr_mono hsub (hvr w hw)
    · rcases List.mem_cons.mp hw with h | h
      · refine hrv w ?_
        rcases v with x | u
        · cases h
        · simp only [mq_toA, Sum.inr.injEq, Sum.inl.injEq] at h
          rw [← h]
      · exact mq_vr_mono hsub (hvr w h))
  rw [mq_psh_map, mq_st_ad had hvr] at hw
  exact hw
/-- what a callee's start asks, at the call -/
theorem mq_pre {H : Heap} {locs : List Loc} {ad : Nat × Nat → Nat} {refs : List (Nat × Nat)} {as : List mLV} (C : mq_C p s m args c cc nL own Ts D cl tys A X) (hB : mq_B E D cl A s ad0 refs0 ad refs M H locs) : ∀ U : State, U.heap = H → s.WarmedH U.vm → mq_Pc X E D cl tys H.size ad refs as M (as.map (mq_cl ad)).toArray U :=
  fun U hU hW => ⟨rfl, by rw [hU], by rw [hU]; exact hB.1, va_K.moved hW.alike C.2.2.2.2.2.1, hB.2.1.weaken (fun _ _ _ _ => trivial), C.2.2.2.2.2.2.2.2 s U hW C.2.2.2.2.2.2.2.1⟩
theorem mq_sum (ad : Nat × Nat → Nat) : ∀ r : List mAV, ((r.map (mq_cv ad)).map fun v => v.category).sum ≤ 2 * r.length
  | [] => Nat.le_refl _
  | v :: r => by
    have h := mq_sum ad r
    have hc : (mq_cv ad v).category ≤ 2 := by rcases lv_cat (mq_cv ad v) with h | h <;> omega
    simp only [List.map_cons, List.sum_cons, List.length_cons]
    omega
theorem mq_room {ad : Nat × Nat → Nat} {ls : Array Slot} {st0 : List Value} (h : r.length ≤ 4) : 2 * (F0 m pc ls st0).monitorRoom + ((r.map (mq_cv ad)).map fun v => v.category).sum ≤ 8 := lv_room (by have := mq_sum ad r; omega)
variable {yM : MethodName} {bytes : ByteArray} {maxL nA : Nat} {ret : Option FieldType} {ws : List Cond} {rm : Room} {C1 : String} {qC : vw_C} {as : List mLV}
theorem mq_g_callV (C : mq_C p s m args c cc nL own Ts D cl tys A X) (h9 : (E.1 999).1 = 9) (hpop : mq_pop b st [] = some (.inr (some q) :: as, r)) (hk : E.1 q.1 = (0, ci, N)) (hc : cl[ci]? = some qC) (hM : mq_Met l X E D cl tys yM ws rm mc ms (.inr (some q) :: as) M rv M') (cw : CallW R s args own qC.1 ix yM bytes maxL ret ws rm mc ms nA) (hn : as.length = nA) (hr4 : r.length ≤ 4) (hf : cs + mc ≤ R.cells ∧ ss + ms ≤ R.slots) (hd : decode cc pc = .ok (.invokevirtual ix, 3))
    (kk : mq_G p l e R s m args below meth c Q nL E D cl A ad0 refs0 (pc + 3) lv (mq_psh rv r) M' (cs + mc) (ss + ms)) : mq_G p l e R s m args below meth c Q nL E D cl A ad0 refs0 pc lv st M cs ss := by
  refine mq_g_call C hpop (fun H locs ls ad refs hB hl hva => ⟨(Value.ref (ad q) :: as.map (mq_cl ad)).toArray, ?_⟩) kk
  have hm : q ∈ refs := mq_in h9 (hva q List.mem_cons_self) hk (Nat.ne_of_beq_eq_false rfl)
  obtain ⟨j, hj⟩ := List.getElem?_of_mem hm
  have he := mq_W_at (E := E) (ad := ad) (M := M) hj
  rw [mq_ce0 hk] at he
  have hstk : (((.inr (some q) : mLV) :: as).map (mq_cl ad)).reverse ++ r.map (mq_cv ad) = (as.map (mq_cl ad)).reverse ++ .ref (ad q) :: r.map (mq_cv ad) := by
    rw [List.map_cons, List.reverse_cons, List.append_assoc]; rfl
  exact va_runV (b := ad q) (As := as.map (mq_cl ad)) (nL := nL) ⟨C.1, C.2.1, C.2.2.1, C.2.2.2.1, C.2.2.2.2.1⟩ (hM ad refs H.size hB.2.2.2.1 hva) cw ⟨mq_blind C.2.2.2.2.2.2.2.2, va_recv C.2.2.2.2.2.1 hB.1 hc he, mq_pre C hB⟩ rfl (by rw [List.length_map, hn]) hl.1 hstk (mq_room hr4) hd hf
theorem mq_g_callS (C : mq_C p s m args c cc nL own Ts D cl tys A X) (hpop : mq_pop b st [] = some (as, r)) (hM : mq_Met l X E D cl tys yM ws rm mc ms as M rv M') (cw : CallB R s args own ix yM bytes maxL ret ws rm mc ms nA ∧ (Jvm.Cond.static yM).before args s = true) (hn : as.length = nA) (hr4 : r.length ≤ 4) (hf : cs + mc ≤ R.cells ∧ ss + ms ≤ R.slots) (hd : decode cc pc = .ok (.invokestatic ix, 3))
    (kk : mq_G p l e R s m args below meth c Q nL E D cl A ad0 refs0 (pc + 3) lv (mq_psh rv r) M' (cs + mc) (ss + ms)) : mq_G p l e R s m args below meth c Q nL E D cl A ad0 refs0 pc lv st M cs ss := by
  refine mq_g_call C hpop (fun H locs ls ad refs hB hl hva => ⟨(as.map (mq_cl ad)).toArray, ?_⟩) kk
  exact va_runS (As := as.map (mq_cl ad)) (nL := nL) ⟨C.1, C.2.1, C.2.2.1, C.2.2.2.1, C.2.2.2.2.1⟩ (hM ad refs H.size hB.2.2.2.1 hva) cw ⟨mq_blind C.2.2.2.2.2.2.2.2, mq_pre C hB⟩ rfl (by rw [List.length_map, hn]) hl.1 rfl (mq_room hr4) hd hf
theorem mq_g_callI (C : mq_C p s m args c cc nL own Ts D cl tys A X) (hpop : mq_pop b st [] = some (.inr (some q) :: as, r)) (hM : mq_Met l X E D cl tys yM ws rm mc ms (.inr (some q) :: as) M rv M') (cw : CallB R s args own ix yM bytes maxL none ws rm mc ms nA ∧ yM.name = "<init>" ∧ (Jvm.Cond.instanceMethod yM).before args s = true) (hn : as.length = nA) (hr4 : r.length ≤ 4) (hf : cs + mc ≤ R.cells ∧ ss + ms ≤ R.slots) (hd : decode cc pc = .ok (.invokespecial ix, 3))
    (kk : mq_G p l e R s m args below meth c Q nL E D cl A ad0 refs0 (pc + 3) lv (mq_psh rv r) M' (cs + mc) (ss + ms)) : mq_G p l e R s m args below meth c Q nL E D cl A ad0 refs0 pc lv st M cs ss := by
  refine mq_g_call C hpop (fun H locs ls ad refs hB hl hva => ⟨(Value.ref (ad q) :: as.map (mq_cl ad)).toArray, ?_⟩) kk
  have hstk : (((.inr (some q) : mLV) :: as).map (mq_cl ad)).reverse ++ r.map (mq_cv ad) = (as.map (mq_cl ad)).reverse ++ .ref (ad q) :: r.map (mq_cv ad) := by
    rw [List.map_cons, List.reverse_cons, List.append_assoc]; rfl
  exact va_runI (b := ad q) (As := as.map (mq_cl ad)) (nL := nL) ⟨C.1, C.2.1, C.2.2.1, C.2.2.2.1, C.2.2.2.2.1⟩ (hM ad refs H.size hB.2.2.2.1 hva) cw ⟨mq_blind C.2.2.2.2.2.2.2.2, mq_pre C hB⟩ rfl (by rw [List.length_map, hn]) hl.1 hstk (mq_room hr4) hd hf
theorem mq_g_callSN {host : String} (C : mq_C p s m args c cc nL own Ts D cl tys A X) (hpop : mq_pop b st [] = some (as, r)) (hM : mq_Met l X E D cl tys yM ws rm mc ms as M rv M') (cw : va_CN R s args own ix yM host bytes maxL ret ws rm mc ms nA ∧ (Jvm.Cond.static yM).before args s = true) (hn : as.length = nA) (hr4 : r.length ≤ 4) (hf : cs + mc ≤ R.cells ∧ ss + ms ≤ R.slots) (hd : decode cc pc = .ok (.invokestatic ix, 3))
    (kk : mq_G p l e R s m args below meth c Q nL E D cl A ad0 refs0 (pc + 3) lv (mq_psh rv r) M' (cs + mc) (ss + ms)) : mq_G p l e R s m args below meth c Q nL E D cl A ad0 refs0 pc lv st M cs ss := by
  refine mq_g_call C hpop (fun H locs ls ad refs hB hl hva => ⟨(as.map (mq_cl ad)).toArray, ?_⟩) kk
  exact va_runSN (As := as.map (mq_cl ad)) (nL := nL) ⟨C.1, C.2.1, C.2.2.1, C.2.2.2.1, C.2.2.2.2.1⟩ (hM ad refs H.size hB.2.2.2.1 hva) ⟨cw.1, cw.2, trivial⟩ ⟨mq_blind C.2.2.2.2.2.2.2.2, mq_pre C hB⟩ rfl (by rw [List.length_map, hn]) hl.1 rfl (mq_room hr4) hd hf
theorem mq_g_callIN {host : String} (C : mq_C p s m args c cc nL own Ts D cl tys A X) (hpop : mq_pop b st [] = some (.inr (some q) :: as, r)) (hM : mq_Met l X E D cl tys yM ws rm mc ms (.inr (some q) :: as) M rv M') (cw : va_CN R s args own ix yM host bytes maxL none ws rm mc ms nA ∧ yM.name = "<init>" ∧ (Jvm.Cond.instanceMethod yM).before args s = true) (hn : as.length = nA) (hr4 : r.length ≤ 4) (hf : cs + mc ≤ R.cells ∧ ss + ms ≤ R.slots) (hd : decode cc pc = .ok (.invokespecial ix, 3))
    (kk : mq_G p l e R s m args below meth c Q nL E D cl A ad0 refs0 (pc + 3) lv (mq_psh rv r) M' (cs + mc) (ss + ms)) : mq_G p l e R s m args below meth c Q nL E D cl A ad0 refs0 pc lv st M cs ss := by
  refine mq_g_call C hpop (fun H locs ls ad refs hB hl hva => ⟨(Value.ref (ad q) :: as.map (mq_cl ad)).toArray, ?_⟩) kk
  have hstk : (((.inr (some q) : mLV) :: as).map (mq_cl ad)).reverse ++ r.map (mq_cv ad) = (as.map (mq_cl ad)).reverse ++ .ref (ad q) :: r.map (mq_cv ad) := by
    rw [List.map_cons, List.reverse_cons, List.append_assoc]; rfl
  exact va_runIN (b := ad q) (As := as.map (mq_cl ad)) (nL := nL) ⟨C.1, C.2.1, C.2.2.1, C.2.2.2.1, C.2.2.2.2.1⟩ (hM ad refs H.size hB.2.2.2.1 hva) cw ⟨mq_blind C.2.2.2.2.2.2.2.2, mq_pre C hB⟩ rfl (by rw [List.length_map, hn]) hl.1 hstk (mq_room hr4) hd hf
theorem mq_g_obj (C : mq_C p s m args c cc nL own Ts D cl tys A X) (hlink : Jvm.Cond.methodLink own ix objectInit ∈ Ts) (hinst : Jvm.Cond.instanceMethod objectInit ∈ Ts) (hcode : Jvm.Cond.code objectInit ⟨#[0xb1]⟩ 1 none ∈ Ts) (hr4 : r.length ≤ 4) (hR : 1 ≤ R.frames ∧ 20 ≤ R.locals) (hd : decode cc pc = .ok (.invokespecial ix, 3))
    (kk : mq_G p l e R s m args below meth c Q nL E D cl A ad0 refs0 (pc + 3) lv r M cs ss) : mq_G p l e R s m args below meth c Q nL E D cl A ad0 refs0 pc lv (.inr (.inl (some q)) :: r) M cs ss := by
  intro H locs ls ad refs hB hl hvl hvs
  refine W.objInit (rest := r.map (mq_cv ad)) (a := ad q) C.1 C.2.1 C.2.2.2.1 (C.2.2.2.2.1 _ hlink) (C.2.2.2.2.1 _ hinst) (C.2.2.2.2.1 _ hcode) rfl (by rw [C.2.2.1]; exact hl.1) rfl hd hR.1 (by have := mq_room (m := m) (pc := pc) (ad := ad) (ls := ls) (st0 := []) hr4; show 2 * 0 + _ + 12 ≤ _; have h2 : 2 * 0 + ((r.map (mq_cv ad)).map fun v => v.category).sum ≤ 8 := this; omega) ?_
  exact W.eq (g2 := F0 m (pc + 3) ls (r.map (mq_cv ad))) rfl (kk H locs ls ad refs hB hl hvl (mq_vs_tl hvs))
theorem mq_g_min (C : mq_C p s m args c cc nL own Ts D cl tys A X) (h1 : Jvm.Cond.methodLink own ix Lib.Math.min.name ∈ Ts) (h2 : Jvm.Cond.static Lib.Math.min.name ∈ Ts) (h3 : Jvm.Cond.initialized "java/lang/Math" ∈ Ts) (h4 : Jvm.Cond.code Lib.Math.min.name Lib.Math.min.code 2 (some .int) ∈ Ts) (hr4 : r.length ≤ 4) (hR : 1 ≤ R.frames ∧ 21 ≤ R.locals) (hf : cs ≤ R.cells ∧ ss ≤ R.slots) (hd : decode cc pc = .ok (.invokestatic ix, 3))
    (kk : mq_G p l e R s m args below meth c Q nL E D cl A ad0 refs0 (pc + 3) lv (.inl (if y < x then y else x) :: r) M cs ss) : mq_G p l e R s m args below meth c Q nL E D cl A ad0 refs0 pc lv (.inl y :: .inl x :: r) M cs ss := by
  intro H locs ls ad refs hB hl hvl hvs
  exact va_mmin (rest := r.map (mq_cv ad)) C.1 C.2.1 (by rw [C.2.2.1]; exact hl.1.symm) C.2.2.2.1 (C.2.2.2.2.1 _ h1) (C.2.2.2.2.1 _ h2) (C.2.2.2.2.1 _ h3) (C.2.2.2.2.1 _ h4) hR.1 (by have := mq_sum ad r; omega) hf.1 hf.2 hd (kk H locs ls ad refs hB hl hvl (mq_vs_int (mq_vs_tl (mq_vs_tl hvs))))
theorem mq_g_sld (C : mq_C p s m args c cc nL own Ts D cl tys A X) {L : Nat} {xs : Nat → Int32} (hX : va_X (ad0 mq_sr) L xs s s.heap ∧ ad0 mq_sr < s.heap.size ∧ ¬ A (ad0 mq_sr)) (hi : vp_in x L) (hd : decode cc pc = .ok (.iaload, 1))
    (kk : mq_G p l e R s m args below meth c Q nL E D cl A ad0 refs0 (pc + 1) lv (.inl (xs x.toNatClampNeg) :: r) M cs ss) : mq_G p l e R s m args below meth c Q nL E D cl A ad0 refs0 pc lv (.inl x :: .inr (.inl (some mq_sr)) :: r) M cs ss := by
  intro H locs ls ad refs hB hl hvl hvs
  have had : ad mq_sr = ad0 mq_sr := hB.2.2.2.2.2 mq_sr (Or.inr rfl)
  have h := va_sld (ls := ls) (rest := r.map (mq_cv ad)) C.1 C.2.1 hX.1 hX.2.1 hX.2.2 hB.2.2.1 hi hd (kk H locs ls ad refs hB hl hvl (mq_vs_int (mq_vs_tl (mq_vs_tl hvs))))
  rw [← had] at h
  exact h
theorem mq_g_slen (C : mq_C p s m args c cc nL own Ts D cl tys A X) {L : Nat} {xs : Nat → Int32} (hX : va_X (ad0 mq_sr) L xs s s.heap ∧ ad0 mq_sr < s.heap.size ∧ ¬ A (ad0 mq_sr)) (hd : decode cc pc = .ok (.arraylength, 1))
    (kk : mq_G p l e R s m args below meth c Q nL E D cl A ad0 refs0 (pc + 1) lv (.inl (Int32.ofNat L) :: r) M cs ss) : mq_G p l e R s m args below meth c Q nL E D cl A ad0 refs0 pc lv (.inr (.inl (some mq_sr)) :: r) M cs ss := by
  intro H locs ls ad refs hB hl hvl hvs
  have had : ad mq_sr = ad0 mq_sr := hB.2.2.2.2.2 mq_sr (Or.inr rfl)
  have h := va_slen (ls := ls) (rest := r.map (mq_cv ad)) C.1 C.2.1 hX.1 hX.2.1 hX.2.2 hB.2.2.1 hd (kk H locs ls ad refs hB hl hvl (mq_vs_int (mq_vs_tl hvs)))
  rw [← had] at h
  exact h
end MQC
end
section
/-! New cells. -/
section MQN
variable {p : Program} {l : Launch} {e : Env} {R : Room} {s : State} {m : MethodId} {args : Array Value} {below : List Frame} {meth : Method} {c : Code} {Q : State → Prop}
variable {cc : ByteArray} {nL : Nat} {own : String} {Ts : List Cond} {D : va_G} {cl : List vw_C} {tys : List (ClassId × FieldType)} {A : Nat → Prop} {X : State → Prop} {E : mEv} {ad0 : Nat × Nat → Nat} {refs0 : List (Nat × Nat)}
variable {pc k ix ci N t0 : Nat} {lv : List (Nat × mLV)} {r : List mAV} {M : mMm} {cs ss : Nat} {C1 : String} {T : u_T}
def mq_nad (ad : Nat × Nat → Nat) (z : Nat × Nat) (q0 : Nat) : Nat × Nat → Nat := fun r => if r = z then q0 else ad r
theorem mq_nad_ne {ad : Nat × Nat → Nat} {z w : Nat × Nat} {q0 : Nat} (h : w ≠ z) : mq_nad ad z q0 w = ad w := if_neg h
theorem mq_nad_at {ad : Nat × Nat → Nat} {z : Nat × Nat} {q0 : Nat} : mq_nad ad z q0 z = q0 := if_pos rfl
theorem mq_fresh {refs : List (Nat × Nat)} (hV : mq_V E M refs) : (k, M.1 k) ∉ refs := fun h => Nat.lt_irrefl _ ((hV.1 _).mp h)
theorem mq_B_new {ad : Nat × Nat → Nat} {refs : List (Nat × Nat)} {H H1 : Heap} {locs locs1 : List Loc} {q0 : Nat} {e0 : va_E} (hB : mq_B E D cl A s ad0 refs0 ad refs M H locs) (hne : k ≠ 999) (hP : va_P D cl (mq_W E ad refs M ++ [(q0, e0)]) H1) (hD : va_D A (mq_W E ad refs M ++ [(q0, e0)])) (hS : va_S A s.heap H1 locs1) (he : mq_ce E (mq_nad ad (k, M.1 k) q0) (mq_new M k) (k, M.1 k) = e0) :
    mq_B E D cl A s ad0 refs0 (mq_nad ad (k, M.1 k) q0) (refs ++ [(k, M.1 k)]) (mq_new M k) H1 locs1 := by
  have hfr := mq_fresh (k := k) hB.2.2.2.1
  have hnr : ∀ w, w ∈ refs → w ≠ (k, M.1 k) := fun w hw h => hfr (h ▸ hw)
  have hlen : (mq_W E ad refs M).length = refs.length := by rw [mq_W, List.length_map]
  refine ⟨?_, ?_, hS, ⟨?_, ?_⟩, ?_, ?_⟩
  · intro j z hz
    obtain ⟨w, hw, rfl⟩ := mq_W_inv hz
    by_cases hj : j < refs.length
    · rw [List.getElem?_append_left hj] at hw
      have hwm := List.mem_of_getElem? hw
      have h0 := hP j (ad w, mq_ce E ad M w) (by rw [List.getElem?_append_left (by rw [hlen]; exact hj)]; exact mq_W_at hw)
      rw [mq_nad_ne (hnr w hwm)]
      refine mq_at_congr (fun j' _ => ?_) (fun j' hj' => ?_) (fun j' _ => ?_) h0
      · exact congrFun (mq_cr_ne (hnr w hwm)) j'
      · have e1 : (mq_new M k).2.2.1 w.1 w.2 j' = M.2.2.1 w.1 w.2 j' := congrFun (mq_cr_ne (hnr w hwm)) j'
        rw [e1]
        cases h1 : M.2.2.1 w.1 w.2 j' with
        | none => rfl
        | some u => simp only [Option.map_some, mq_nad_ne (hnr u (hB.2.2.2.1.2 w hwm j' hj' u h1))]
      · exact congrFun (mq_cr_ne (hnr w hwm)) j'
    · rw [List.getElem?_append_right (by omega)] at hw
      have hz0 : j - refs.length < 1 := (List.getElem?_eq_some_iff.mp hw).1
      have hj0 : j = refs.length := by omega
      subst hj0
      rw [Nat.sub_self] at hw
      cases hw
      have h0 := hP refs.length (q0, e0) (by rw [List.getElem?_append_right (by omega), hlen, Nat.sub_self]; rfl)
      rw [mq_nad_at, he]
      exact h0
  · refine mq_D_same hD ?_
    rw [mq_W_fst, List.map_append, List.map_append, mq_W_fst]
    congr 1
    · exact List.map_congr_left (fun w hw => mq_nad_ne (hnr w hw))
    · simp only [List.map_cons, List.map_nil, mq_nad_at]
  · intro w
    rw [List.mem_append, List.mem_singleton, hB.2.2.2.1.1 w]
    obtain ⟨w1, w2⟩ := w
    by_cases hw : w1 = k
    · subst hw
      simp only [mq_new, if_true, Prod.mk.injEq, true_and]
      omega
    · simp only [mq_new, hw, if_false, Prod.mk.injEq, false_and, or_false]
  · intro w hw j hj u hu
    by_cases hwz : w = (k, M.1 k)
    · subst hwz
      have e1 : (mq_new M k).2.2.1 k (M.1 k) j = none := congrFun mq_cr_at j
      rw [e1] at hu
      cases hu
    · have e1 : (mq_new M k).2.2.1 w.1 w.2 j = M.2.2.1 w.1 w.2 j := congrFun (mq_cr_ne hwz) j
      rw [e1] at hu
      rcases List.mem_append.mp hw with h | h
      · exact List.mem_append_left _ (hB.2.2.2.1.2 w h j hj u hu)
      · exact absurd (List.mem_singleton.mp h) hwz
  · exact fun w hw => List.mem_append_left _ (hB.2.2.2.2.1 w hw)
  · intro w hw
    rcases hw with hw | hw
    · rw [mq_nad_ne (hnr w (hB.2.2.2.2.1 w hw))]
      exact hB.2.2.2.2.2 w (Or.inl hw)
    · rw [mq_nad_ne (by rw [hw]; intro h; exact hne (Prod.mk.inj h).1.symm)]
      exact hB.2.2.2.2.2 w (Or.inr hw)
theorem mq_new_lm {ad : Nat × Nat → Nat} {refs : List (Nat × Nat)} {q0 : Nat} (hV : mq_V E M refs) (hne : k ≠ 999) : ∀ w, mq_vr refs w → mq_nad ad (k, M.1 k) q0 w = ad w := by
  intro w hw
  rcases hw with hw | hw
  · exact mq_nad_ne (fun h => mq_fresh hV (h ▸ hw))
  · exact mq_nad_ne (by rw [hw]; intro h; exact hne (Prod.mk.inj h).1.symm)
/-- the walk goes on with the new cell -/
theorem mq_new_go {ad : Nat × Nat → Nat} {refs : List (Nat × Nat)} {H H1 : Heap} {locs locs1 : List Loc} {ls : Array Slot} {q0 : Nat} {e0 : va_E} {cs' ss' pc' : Nat} (hB : mq_B E D cl A s ad0 refs0 ad refs M H locs) (hl : lv_has ls nL (mq_lm ad lv)) (hvl : mq_vl refs lv) (hvs : mq_vs refs r) (hne : k ≠ 999) (hP : va_P D cl (mq_W E ad refs M ++ [(q0, e0)]) H1) (hD : va_D A (mq_W E ad refs M ++ [(q0, e0)])) (hS : va_S A s.heap H1 locs1) (he : mq_ce E (mq_nad ad (k, M.1 k) q0) (mq_new M k) (k, M.1 k) = e0)
    (kk : mq_G p l e R s m args below meth c Q nL E D cl A ad0 refs0 pc' lv (.inr (.inl (some (k, M.1 k))) :: r) (mq_new M k) cs' ss') : W p l e R s m args below meth c H1 locs1 cs' ss' Q (F0 m pc' ls (.ref q0 :: r.map (mq_cv ad))) := by
  have had := mq_new_lm (ad := ad) (q0 := q0) hB.2.2.2.1 hne
  have hsub : ∀ w, w ∈ refs → w ∈ refs ++ [(k, M.1 k)] := fun w hw => List.mem_append_left _ hw
  have h := kk H1 locs1 ls (mq_nad ad (k, M.1 k) q0) (refs ++ [(k, M.1 k)]) (mq_B_new hB hne hP hD hS he) (by rw [mq_lm_ad had hvl]; exact hl) (fun i w h => (hvl i w h).imp (hsub w) id) (by
    refine mq_vs_cons (fun w hw => (hvs w hw).imp (hsub w) id) (fun w hw => ?_)
    injection hw with hw
    injection hw with hw
    injection hw with hw
    rw [← hw]
    exact Or.inl (List.mem_append_right _ List.mem_cons_self))
  rw [List.map_cons, mq_st_ad had hvs] at h
  have e1 : mq_cv (mq_nad ad (k, M.1 k) q0) (.inr (.inl (some (k, M.1 k)))) = .ref q0 := by
    show Value.ref (mq_nad ad (k, M.1 k) q0 (k, M.1 k)) = _
    rw [mq_nad_at]
  rw [e1] at h
  exact h
theorem mq_g_new (C : mq_C p s m args c cc nL own Ts D cl tys A X) (hne : k ≠ 999) (hk : E.1 k = (0, ci, N)) (hc : cl[ci]? = some (C1, T, N)) (hin : ∀ w ∈ u_ws C1 T N, w ∈ Ts) (ty0 : Nat → FieldType) (hty : ∀ k, k < N → parseFieldDescriptor (T k).2.2.1 = some (ty0 k)) (hdf : ∀ j, j < N → defaultValue (ty0 j) = if E.2.1 ci j then .null else .int 0) (hcl : Jvm.Cond.classLink own ix C1 ∈ Ts) (hins : Jvm.Cond.instantiable C1 N ∈ Ts) (hini : Jvm.Cond.initialized C1 ∈ Ts) (hf : cs + 1 ≤ R.cells ∧ ss + N ≤ R.slots) (hd : decode cc pc = .ok (.new ix, 3))
    (kk : mq_G p l e R s m args below meth c Q nL E D cl A ad0 refs0 (pc + 3) lv (.inr (.inl (some (k, M.1 k))) :: r) (mq_new M k) (cs + 1) (ss + N)) : mq_G p l e R s m args below meth c Q nL E D cl A ad0 refs0 pc lv r M cs ss := by
  intro H locs ls ad refs hB hl hvl hvs
  refine va_new (fs := (List.range N).map (fun j => if E.2.1 ci j then .null else .int 0)) C.1 C.2.1 C.2.2.2.2.1 hin ty0 hty C.2.2.2.1 (C.2.2.2.2.1 _ hcl) (C.2.2.2.2.1 _ hins) (C.2.2.2.2.1 _ hini) C.2.2.2.2.2.1 hB.1 hB.2.1 hB.2.2.1 C.2.2.2.2.2.2.1 hc (fun j hj => ?_) hf.1 hf.2 hd (fun q0 H1 hP hD hS => ?_)
  · rw [hdf j hj, vp_V, List.getD_eq_getElem?_getD, mq_range_at hj]; rfl
  · refine mq_new_go hB hl hvl hvs hne hP hD hS ?_ kk
    rw [mq_ce0 (q := (k, M.1 k)) hk]
    congr 2
    apply List.map_congr_left
    intro j _
    have e1 : (mq_new M k).2.2.1 k (M.1 k) j = none := congrFun mq_cr_at j
    have e2 : (mq_new M k).2.1 k (M.1 k) j = 0 := congrFun mq_cr_at j
    simp only [mq_fv, hk, e1, e2, Option.map_none]
    rfl
theorem mq_g_newi (C : mq_C p s m args c cc nL own Ts D cl tys A X) (hne : k ≠ 999) (hk : E.1 k = (1, ci, N)) (ht : tys[t0]? = some (E.2.2 1, .int)) (hN : N ≤ 65536) (harr : Jvm.Cond.arrayClass .int ∈ Ts) (hf : cs + 1 ≤ R.cells ∧ ss + N ≤ R.slots) (hd : decode cc pc = .ok (.newarray .int, 2))
    (kk : mq_G p l e R s m args below meth c Q nL E D cl A ad0 refs0 (pc + 2) lv (.inr (.inl (some (k, M.1 k))) :: r) (mq_new M k) (cs + 1) (ss + N)) : mq_G p l e R s m args below meth c Q nL E D cl A ad0 refs0 pc lv (.inl (Int32.ofNat N) :: r) M cs ss := by
  intro H locs ls ad refs hB hl hvl hvs
  have h31 : N < 2 ^ 31 := by omega
  refine va_newa (atype := .int) (ty := .int) (n := Int32.ofNat N) (N' := N) (a0 := (N, .inl (fun _ => 0))) C.1 C.2.1 (C.2.2.2.2.1 _ harr) rfl C.2.2.2.2.2.1 hB.1 hB.2.1 hB.2.2.1 C.2.2.2.2.2.2.1 (fun _ => rfl) (nI_pos h31) (nI_clamp h31) (by show N * 4 ≤ _; omega) hf.1 hf.2 hd (fun q0 cA H1 hK' hP hD hS => ?_)
  have hcA : cA = E.2.2 1 := by
    have h1 := (hK'.2 tys.length (cA, .int) (by rw [List.getElem?_append_right (Nat.le_refl _), Nat.sub_self]; rfl)).2
    have h2 := (C.2.2.2.2.2.1.2 t0 _ ht).2
    exact Option.some.inj (h1.symm.trans h2)
  subst hcA
  refine mq_new_go hB hl (by exact hvl) (mq_vs_tl hvs) hne hP hD hS ?_ kk
  rw [mq_ceS (q := (k, M.1 k)) (.inl rfl) hk]
  have e2 : (mq_new M k).2.1 k (M.1 k) = fun _ => 0 := mq_cr_at
  rw [e2]
theorem mq_g_newb (C : mq_C p s m args c cc nL own Ts D cl tys A X) (hne : k ≠ 999) (hk : E.1 k = (4, ci, N)) (ht : tys[t0]? = some (E.2.2 4, .byte)) (hN : N ≤ 65536) (harr : Jvm.Cond.arrayClass .byte ∈ Ts) (hf : cs + 1 ≤ R.cells ∧ ss + N ≤ R.slots) (hd : decode cc pc = .ok (.newarray .byte, 2))
    (kk : mq_G p l e R s m args below meth c Q nL E D cl A ad0 refs0 (pc + 2) lv (.inr (.inl (some (k, M.1 k))) :: r) (mq_new M k) (cs + 1) (ss + N)) : mq_G p l e R s m args below meth c Q nL E D cl A ad0 refs0 pc lv (.inl (Int32.ofNat N) :: r) M cs ss := by
  intro H locs ls ad refs hB hl hvl hvs
  have h31 : N < 2 ^ 31 := by omega
  refine va_newa (atype := .byte) (ty := .byte) (n := Int32.ofNat N) (N' := N) (a0 := (N, .inl (fun _ => 0))) C.1 C.2.1 (C.2.2.2.2.1 _ harr) rfl C.2.2.2.2.2.1 hB.1 hB.2.1 hB.2.2.1 C.2.2.2.2.2.2.1 (fun _ => rfl) (nI_pos h31) (nI_clamp h31) (by show N * 1 ≤ _; omega) hf.1 hf.2 hd (fun q0 cA H1 hK' hP hD hS => ?_)
  have hcA : cA = E.2.2 4 := by
    have h1 := (hK'.2 tys.length (cA, .byte) (by rw [List.getElem?_append_right (Nat.le_refl _), Nat.sub_self]; rfl)).2
    have h2 := (C.2.2.2.2.2.1.2 t0 _ ht).2
    exact Option.some.inj (h1.symm.trans h2)
  subst hcA
  refine mq_new_go hB hl (by exact hvl) (mq_vs_tl hvs) hne hP hD hS ?_ kk
  rw [mq_ceS (q := (k, M.1 k)) (.inr (.inl rfl)) hk]
  have e2 : (mq_new M k).2.1 k (M.1 k) = fun _ => 0 := mq_cr_at
  rw [e2]
theorem mq_g_newz (C : mq_C p s m args c cc nL own Ts D cl tys A X) (hne : k ≠ 999) (hk : E.1 k = (5, ci, N)) (ht : tys[t0]? = some (E.2.2 5, .boolean)) (hN : N ≤ 65536) (harr : Jvm.Cond.arrayClass .boolean ∈ Ts) (hf : cs + 1 ≤ R.cells ∧ ss + N ≤ R.slots) (hd : decode cc pc = .ok (.newarray .boolean, 2))
    (kk : mq_G p l e R s m args below meth c Q nL E D cl A ad0 refs0 (pc + 2) lv (.inr (.inl (some (k, M.1 k))) :: r) (mq_new M k) (cs + 1) (ss + N)) : mq_G p l e R s m args below meth c Q nL E D cl A ad0 refs0 pc lv (.inl (Int32.ofNat N) :: r) M cs ss := by
  intro H locs ls ad refs hB hl hvl hvs
  have h31 : N < 2 ^ 31 := by omega
  refine va_newa (atype := .boolean) (ty := .boolean) (n := Int32.ofNat N) (N' := N) (a0 := (N, .inl (fun _ => 0))) C.1 C.2.1 (C.2.2.2.2.1 _ harr) rfl C.2.2.2.2.2.1 hB.1 hB.2.1 hB.2.2.1 C.2.2.2.2.2.2.1 (fun _ => rfl) (nI_pos h31) (nI_clamp h31) (by show N * 1 ≤ _; omega) hf.1 hf.2 hd (fun q0 cA H1 hK' hP hD hS => ?_)
  have hcA : cA = E.2.2 5 := by
    have h1 := (hK'.2 tys.length (cA, .boolean) (by rw [List.getElem?_append_right (Nat.le_refl _), Nat.sub_self]; rfl)).2
    have h2 := (C.2.2.2.2.2.1.2 t0 _ ht).2
    exact Option.some.inj (h1.symm.trans h2)
  subst hcA
  refine mq_new_go hB hl (by exact hvl) (mq_vs_tl hvs) hne hP hD hS ?_ kk
  rw [mq_ceS (q := (k, M.1 k)) (.inr (.inr rfl)) hk]
  have e2 : (mq_new M k).2.1 k (M.1 k) = fun _ => 0 := mq_cr_at
  rw [e2]
theorem mq_g_newl (C : mq_C p s m args c cc nL own Ts D cl tys A X) (hne : k ≠ 999) (hk : E.1 k = (2, ci, N)) (ht : tys[t0]? = some (E.2.2 2, .long)) (hN : N ≤ 65536) (harr : Jvm.Cond.arrayClass .long ∈ Ts) (hf : cs + 1 ≤ R.cells ∧ ss + N ≤ R.slots) (hd : decode cc pc = .ok (.newarray .long, 2))
    (kk : mq_G p l e R s m args below meth c Q nL E D cl A ad0 refs0 (pc + 2) lv (.inr (.inl (some (k, M.1 k))) :: r) (mq_new M k) (cs + 1) (ss + N)) : mq_G p l e R s m args below meth c Q nL E D cl A ad0 refs0 pc lv (.inl (Int32.ofNat N) :: r) M cs ss := by
  intro H locs ls ad refs hB hl hvl hvs
  have h31 : N < 2 ^ 31 := by omega
  refine va_newa (atype := .long) (ty := .long) (n := Int32.ofNat N) (N' := N) (a0 := (N, .inr (.inl (fun _ => 0)))) C.1 C.2.1 (C.2.2.2.2.1 _ harr) rfl C.2.2.2.2.2.1 hB.1 hB.2.1 hB.2.2.1 C.2.2.2.2.2.2.1 (fun _ => rfl) (nI_pos h31) (nI_clamp h31) (by show N * 8 ≤ _; omega) hf.1 hf.2 hd (fun q0 cA H1 hK' hP hD hS => ?_)
  have hcA : cA = E.2.2 2 := by
    have h1 := (hK'.2 tys.length (cA, .long) (by rw [List.getElem?_append_right (Nat.le_refl _), Nat.sub_self]; rfl)).2
    have h2 := (C.2.2.2.2.2.1.2 t0 _ ht).2
    exact Option.some.inj (h1.symm.trans h2)
  subst hcA
  refine mq_new_go hB hl (by exact hvl) (mq_vs_tl hvs) hne hP hD hS ?_ kk
  rw [mq_ce2 (q := (k, M.1 k)) hk]
  have e2 : (mq_new M k).2.2.2 k (M.1 k) = fun _ => 0 := mq_cr_at
  rw [e2]
theorem mq_g_newq (C : mq_C p s m args c cc nL own Ts D cl tys A X) (hne : k ≠ 999) (hk : E.1 k = (3, ci, N)) (ht : tys[t0]? = some (E.2.2 (100 + ci), .object C1)) (hN : N ≤ 65536) (hcl : Jvm.Cond.classLink own ix C1 ∈ Ts) (hao : va_AO C1 s) (hf : cs + 1 ≤ R.cells ∧ ss + N ≤ R.slots) (hd : decode cc pc = .ok (.anewarray ix, 3))
    (kk : mq_G p l e R s m args below meth c Q nL E D cl A ad0 refs0 (pc + 3) lv (.inr (.inl (some (k, M.1 k))) :: r) (mq_new M k) (cs + 1) (ss + N)) : mq_G p l e R s m args below meth c Q nL E D cl A ad0 refs0 pc lv (.inl (Int32.ofNat N) :: r) M cs ss := by
  intro H locs ls ad refs hB hl hvl hvs
  have h31 : N < 2 ^ 31 := by omega
  refine va_newq (n := Int32.ofNat N) (N' := N) C.1 C.2.1 C.2.2.2.1 (C.2.2.2.2.1 _ hcl) hao C.2.2.2.2.2.1 hB.1 hB.2.1 hB.2.2.1 C.2.2.2.2.2.2.1 (nI_pos h31) (nI_clamp h31) (by omega) hf.1 hf.2 hd (fun q0 cA H1 hK' hP hD hS => ?_)
  have hcA : cA = E.2.2 (100 + ci) := by
    have h1 := (hK'.2 tys.length (cA, .object C1) (by rw [List.getElem?_append_right (Nat.le_refl _), Nat.sub_self]; rfl)).2
    have h2 := (C.2.2.2.2.2.1.2 t0 _ ht).2
    obtain ⟨_, _, _, _, _, h1⟩ := h1
    obtain ⟨_, _, _, _, _, h2⟩ := h2
    exact Option.some.inj (h1.symm.trans h2)
  subst hcA
  refine mq_new_go hB hl (by exact hvl) (mq_vs_tl hvs) hne hP hD hS ?_ kk
  rw [mq_ce3 (q := (k, M.1 k)) hk]
  have e2 : (mq_new M k).2.2.1 k (M.1 k) = fun _ => none := mq_cr_at
  rw [e2]
  rfl
end MQN
end
section
/-! THE MACHINE IS RIGHT: what it answers, the JVM does. -/
def mq_len : ClassFile.Instr → Nat
  | .bipush _ => 2
  | .ldc _ => 2
  | .iload _ => 2
  | .aload _ => 2
  | .istore _ => 2
  | .astore _ => 2
  | .newarray _ => 2
  | .sipush _ => 3
  | .ldc2_w _ => 3
  | .iinc _ _ => 3
  | .goto _ => 3
  | .ifCond _ _ => 3
  | .if_icmp _ _ => 3
  | .if_acmp _ _ => 3
  | .ifnull _ => 3
  | .ifnonnull _ => 3
  | .getfield _ => 3
  | .putfield _ => 3
  | .new _ => 3
  | .anewarray _ => 3
  | .invokespecial _ => 3
  | .invokevirtual _ => 3
  | .invokestatic _ => 3
  | _ => 1
/-- a class of the world: its table, its words -/
def mq_okc (Ts : List Cond) (cl : List vw_C) (E : mEv) (k : Nat) (C1 : String) (T : u_T) (N : Nat) (ty0 : Nat → FieldType) : Prop :=
  E.1 k = (0, k, N) ∧ cl[k]? = some (C1, T, N) ∧ (∀ w ∈ u_ws C1 T N, w ∈ Ts) ∧ (∀ j, j < N → parseFieldDescriptor (T j).2.2.1 = some (ty0 j)) ∧ (∀ a, a < N → ∀ b, b < N → a ≠ b → (T a).2.1 ≠ (T b).2.1) ∧ ∀ j, j < N → defaultValue (ty0 j) = if E.2.1 k j then .null else .int 0
/-- a field that an instruction names: c = 0 an int, 1 a reference, 2 a boolean -/
def mq_okf (own : String) (Ts : List Cond) (cl : List vw_C) (E : mEv) (k b c ix : Nat) (P : Bool → String → Prop) : Prop :=
  ∃ (C1 : String) (T : u_T) (N : Nat) (ty0 : Nat → FieldType), mq_okc Ts cl E k C1 T N ty0 ∧ b < N ∧ Jvm.Cond.fieldLink own ix (T b).1 (T b).2.1 (T b).2.2.1 ∈ Ts ∧ P (T b).2.2.2 (T b).1 ∧
    (match c with
     | 0 => E.2.1 k b = false ∧ ty0 b = .int
     | 1 => E.2.1 k b = true ∧ ((∃ n, ty0 b = .object n) ∨ ∃ t, ty0 b = .array t)
     | 2 => E.2.1 k b = false ∧ ty0 b = .boolean
     | _ => False)
/-- the callees: names, codes, words -/
abbrev mCe : Type := (Nat → MethodName) × (Nat → ByteArray) × (Nat → Nat) × (Nat → Option FieldType) × List Cond
def mq_ws (Z : mCe) (a : Nat) : List Cond := .code (Z.1 a) (Z.2.1 a) (Z.2.2.1 a) (Z.2.2.2.1 a) :: Z.2.2.2.2
def mq_rm (mx : Nat → Nat × Nat × Nat) (d a : Nat) : Room := { frames := d, cells := (mx a).1, slots := (mx a).2.1, locals := 37 * d }
/-- what every call asks of the tables -/
def mq_okk (Ts : List Cond) (Z : mCe) (a nA : Nat) (L : Prop) : Prop :=
  GoodIn Ts (mq_ws Z a) ∧ Jvm.Cond.initialized (Z.1 a).cls ∈ Ts ∧ L ∧ ((Z.1 a).cls ≠ "java/lang/invoke/MethodHandle" ∧ (Z.1 a).cls ≠ "java/lang/invoke/VarHandle" ∧ (parseMethodDescriptor (Z.1 a).desc).map (fun d => d.parameters.length) = some nA) ∧ Z.2.2.1 a ≤ 18
/-- what a row asks of the tables, its bytes apart -/
def mq_ext (nL : Nat) (own : String) (Ts : List Cond) (cl : List vw_C) (tys : List (ClassId × FieldType)) (E : mEv) (Z : mCe) (mx : Nat → Nat × Nat × Nat) (ini : Bool) (rt : Option FieldType) (X : State → Prop) : mEn → Prop
  | (pc, ins, _, a, b, c, v) =>
    match ins with
    | .iconst n => Int32.ofInt n = v
    | .bipush n => (Int8.ofInt n).toInt32 = v
    | .sipush n => (Int16.ofInt n).toInt32 = v
    | .ldc ix => Jvm.Cond.constant own ix v ∈ Ts
    | .ldc2_w ix => Jvm.Cond.constantLong own ix (Int64.ofNat a) ∈ Ts
    | .istore i => i < nL
    | .istore_n i => i.val < nL
    | .astore i => i < nL
    | .astore_n i => i.val < nL
    | .iinc i n => i < nL ∧ Int32.ofInt n = v
    | .goto off => (pc : Int) + off = (a : Int)
    | .ifCond _ off => (pc : Int) + off = (a : Int)
    | .if_icmp _ off => (pc : Int) + off = (a : Int)
    | .ifnull off => (pc : Int) + off = (a : Int)
    | .ifnonnull off => (pc : Int) + off = (a : Int)
    | .getfield ix => mq_okf own Ts cl E a b c ix (fun _ _ => True)
    | .putfield ix => mq_okf own Ts cl E a b c ix (fun f o => f = false ∨ (f = true ∧ ini = true ∧ o = own))
    | .new ix => (E.1 a).1 = 0 → a ≠ 999 ∧ ∃ (C1 : String) (T : u_T) (N : Nat) (ty0 : Nat → FieldType), mq_okc Ts cl E a C1 T N ty0 ∧ Jvm.Cond.classLink own ix C1 ∈ Ts ∧ Jvm.Cond.instantiable C1 N ∈ Ts ∧ Jvm.Cond.initialized C1 ∈ Ts
    | .newarray t => a ≠ 999 ∧ (E.1 a).2.2 ≤ 65536 ∧ ((t = .int ∧ (E.1 a).1 = 1 ∧ Jvm.Cond.arrayClass .int ∈ Ts) ∨ (t = .long ∧ (E.1 a).1 = 2 ∧ Jvm.Cond.arrayClass .long ∈ Ts) ∨ (t = .byte ∧ (E.1 a).1 = 4 ∧ Jvm.Cond.arrayClass .byte ∈ Ts) ∨ (t = .boolean ∧ (E.1 a).1 = 5 ∧ Jvm.Cond.arrayClass .boolean ∈ Ts))
    | .anewarray ix => a ≠ 999 ∧ (E.1 a).2.2 ≤ 65536 ∧ (E.1 a).1 = 3 ∧ ∃ (C1 : String) (t0 : Nat), tys[t0]? = some (E.2.2 (100 + (E.1 a).2.1), FieldType.object C1) ∧ Jvm.Cond.classLink own ix C1 ∈ Ts ∧ ∀ s : State, X s → va_AO C1 s
    | .invokespecial ix => (match a with
      | 0 => b = 1 ∧ Jvm.Cond.methodLink own ix objectInit ∈ Ts ∧ Jvm.Cond.instanceMethod objectInit ∈ Ts ∧ Jvm.Cond.code objectInit ⟨#[0xb1]⟩ 1 none ∈ Ts
      | a + 1 => ∃ nA, b = nA + 1 ∧ mq_okk Ts Z a nA (Jvm.Cond.methodLink own ix (Z.1 a) ∈ Ts ∨ ∃ host, ∀ s : State, X s → va_Nw (.methodLinkNest own ix (Z.1 a) host) s) ∧ (Z.1 a).name = "<init>" ∧ Jvm.Cond.instanceMethod (Z.1 a) ∈ Ts ∧ Z.2.2.2.1 a = none)
    | .invokevirtual ix => ∃ nA qC, b = nA + 1 ∧ mq_okk Ts Z a nA (Jvm.Cond.methodLink own ix (Z.1 a) ∈ Ts) ∧ Jvm.Cond.instanceMethod (Z.1 a) ∈ Ts ∧ cl[(mx a).2.2]? = some qC ∧ Jvm.Cond.selects qC.1 (Z.1 a) (Z.1 a) ∈ Ts
    | .invokestatic ix => (match c with
      | 7 => Jvm.Cond.methodLink own ix Lib.Math.min.name ∈ Ts ∧ Jvm.Cond.static Lib.Math.min.name ∈ Ts ∧ Jvm.Cond.initialized "java/lang/Math" ∈ Ts ∧ Jvm.Cond.code Lib.Math.min.name Lib.Math.min.code 2 (some .int) ∈ Ts
      | 8 => True
      | _ => mq_okk Ts Z a b (Jvm.Cond.methodLink own ix (Z.1 a) ∈ Ts ∨ ∃ host, ∀ s : State, X s → va_Nw (.methodLinkNest own ix (Z.1 a) host) s) ∧ Jvm.Cond.static (Z.1 a) ∈ Ts)
    | .ireturn => (rt = some .boolean ∧ c = 2) ∨ rt = some .int
    | .areturn => ∃ ty, rt = some ty ∧ ((∃ n, ty = .object n) ∨ ∃ t, ty = .array t)
    | .return_ => rt = none
    | _ => True
/-- a row of a method's code is as the class file and the tables have it -/
def mq_ok (cc : ByteArray) (nL : Nat) (own : String) (Ts : List Cond) (cl : List vw_C) (tys : List (ClassId × FieldType)) (E : mEv) (Z : mCe) (sw : Nat → List (Int32 × Nat)) (mx : Nat → Nat × Nat × Nat) (ini : Bool) (rt : Option FieldType) (X : State → Prop) : mEn → Prop
  | (pc, ins, nx, a, b, c, v) =>
    match ins with
    | .tableswitch d lo hi offs => ∃ len, decode cc pc = .ok (.tableswitch d lo hi offs, len) ∧ (∀ x : Int32, (x.toInt < lo ∨ hi < x.toInt) → mq_swt x a (sw b) = a ∧ (pc : Int) + d = (a : Int)) ∧ ∀ x : Int32, ¬ x.toInt < lo → ¬ hi < x.toInt → ∃ off, offs[(x.toInt - lo).toNat]? = some off ∧ (pc : Int) + off = (mq_swt x a (sw b) : Nat)
    | .lookupswitch d ps => ∃ len, decode cc pc = .ok (.lookupswitch d ps, len) ∧ (ps.toList.zip (ps.toList.drop 1)).all (fun (a, next) => a.1 < next.1) = true ∧ ∀ x : Int32, (pc : Int) + Op.lookupswitch.offset ps.toList d x.toInt = (mq_swt x a (sw b) : Nat)
    | ins => (decode cc pc = .ok (ins, mq_len ins) ∧ nx = pc + mq_len ins) ∧
      mq_ext nL own Ts cl tys E Z mx ini rt X (pc, ins, nx, a, b, c, v)
theorem mq_lk_spec {pc : Nat} {en : mEn} : ∀ {code : List mEn}, mq_lk pc code = some en → en.1 = pc ∧ en ∈ code
  | [], h => by cases h
  | e :: r, h => by
    unfold mq_lk at h
    split at h
    · rename_i hq
      cases h
      exact ⟨hq, List.mem_cons_self⟩
    · obtain ⟨h1, h2⟩ := mq_lk_spec h
      exact ⟨h1, List.mem_cons_of_mem _ h2⟩
section MQX
variable {p : Program} {l : Launch} {e : Env} {R : Room} {s : State} {m : MethodId} {args : Array Value} {below : List Frame} {meth : Method} {c : Code} {Q : State → Prop}
variable {cc : ByteArray} {nL : Nat} {own : String} {Ts : List Cond} {D : va_G} {cl : List vw_C} {tys : List (ClassId × FieldType)} {A : Nat → Prop} {X : State → Prop} {E : mEv} {ad0 : Nat × Nat → Nat} {refs0 : List (Nat × Nat)}
variable {Z : mCe} {sw : Nat → List (Int32 × Nat)} {hn : Nat → Nat → Option Nat} {mx : Nat → Nat × Nat × Nat} {call : Nat → List mLV → mMm → mRs} {code : List mEn} {lim : Nat × Nat × Nat} {scr : Option (Nat × (Nat → Int32))} {ini : Bool} {rt : Option FieldType} {d : Nat} {res : (Option mLV ⊕ Nat) × mMm}
theorem mq_callB {a nA ix : Nat} {L : Prop} (C : mq_C p s m args c cc nL own Ts D cl tys A X) (hR : d + 1 ≤ R.frames ∧ 37 * (d + 1) ≤ R.locals ∧ lim.1 ≤ R.cells ∧ lim.2.1 ≤ R.slots) (hk : mq_okk Ts Z a nA L) (hl : Jvm.Cond.methodLink own ix (Z.1 a) ∈ Ts) : CallB R s args own ix (Z.1 a) (Z.2.1 a) (Z.2.2.1 a) (Z.2.2.2.1 a) (mq_ws Z a) (mq_rm mx d a) (mx a).1 (mx a).2.1 nA :=
  callB_of nA C.2.2.2.2.1 hk.1 rfl rfl rfl (C.2.2.2.2.1 _ hk.2.1) (C.2.2.2.2.1 _ hl) hk.2.2.2.1 ⟨by show d + 1 ≤ R.frames; omega, by show 8 + (Z.2.2.1 a + 11) + 37 * d ≤ R.locals; have := hk.2.2.2.2; omega⟩
theorem mq_callN {a nA ix : Nat} {L : Prop} {host : String} (C : mq_C p s m args c cc nL own Ts D cl tys A X) (hR : d + 1 ≤ R.frames ∧ 37 * (d + 1) ≤ R.locals ∧ lim.1 ≤ R.cells ∧ lim.2.1 ≤ R.slots) (hk : mq_okk Ts Z a nA L) (hl : va_Nw (.methodLinkNest own ix (Z.1 a) host) s) : va_CN R s args own ix (Z.1 a) host (Z.2.1 a) (Z.2.2.1 a) (Z.2.2.2.1 a) (mq_ws Z a) (mq_rm mx d a) (mx a).1 (mx a).2.1 nA :=
  va_cnB nA C.2.2.2.2.1 hk.1 rfl rfl rfl hl (C.2.2.2.2.1 _ hk.2.1) hk.2.2.2.1 ⟨by show d + 1 ≤ R.frames; omega, by show 8 + (Z.2.2.1 a + 11) + 37 * d ≤ R.locals; have := hk.2.2.2.2; omega⟩
set_option maxHeartbeats 4000000 in
set_option maxRecDepth 100000 in
theorem mq_main (C : mq_C p s m args c cc nL own Ts D cl tys A X) (h9 : (E.1 999).1 = 9) (hini : ini = true → meth.name = "<init>") {tI tL tB tZ : Nat} (htI : tys[tI]? = some (E.2.2 1, .int)) (htL : tys[tL]? = some (E.2.2 2, .long)) (htB : tys[tB]? = some (E.2.2 4, .byte)) (htZ : tys[tZ]? = some (E.2.2 5, .boolean))
    (htQ : ∀ k, (E.1 k).1 = 3 → ∃ (C1 : String) (T : u_T) (N t0 : Nat), E.1 (E.1 k).2.1 = (0, (E.1 k).2.1, N) ∧ cl[(E.1 k).2.1]? = some (C1, T, N) ∧ tys[t0]? = some (E.2.2 (100 + (E.1 k).2.1), .object C1))
    (htO : ∀ k, (E.1 k).1 = 0 → (E.1 k).2.1 = k)
    (hok : ∀ en ∈ code, mq_ok cc nL own Ts cl tys E Z sw mx ini rt X en)
    (hcall : ∀ a as M rv M', call a as M = some (.inl rv, M') → mq_Met l X E D cl tys (Z.1 a) (mq_ws Z a) (mq_rm mx d a) (mx a).1 (mx a).2.1 as M rv M')
    (hR : d + 1 ≤ R.frames ∧ 37 * (d + 1) ≤ R.locals ∧ lim.1 ≤ R.cells ∧ lim.2.1 ≤ R.slots)
    (hscr : ∀ w, scr = some w → va_X (ad0 mq_sr) w.1 w.2 s s.heap ∧ ad0 mq_sr < s.heap.size ∧ ¬ A (ad0 mq_sr))
    (hcat : ∀ pc ix nx a b sc v, (pc, ClassFile.Instr.invokevirtual ix, nx, a, b, sc, v) ∈ code → ∀ lv st M cs ss q as r x M' hp, mq_pop b st [] = some (.inr (some q) :: as, r) → (E.1 q.1).1 = 0 → (E.1 q.1).2.1 = (mx a).2.2 → r.length ≤ 4 → cs + (mx a).1 ≤ lim.1 → ss + (mx a).2.1 ≤ lim.2.1 → call a (.inr (some q) :: as) M = some (.inr x, M') → hn sc x = some hp → mq_G p l e R s m args below meth c Q nL E D cl A ad0 refs0 hp [] [] M' (cs + (mx a).1) (ss + (mx a).2.1) → mq_G p l e R s m args below meth c Q nL E D cl A ad0 refs0 pc lv st M cs ss)
    (hcw : ∀ pc ix nx a b v, (pc, ClassFile.Instr.invokestatic ix, nx, a, b, 8, v) ∈ code → ∀ lv st M cs ss as r w M', mq_pop b st [] = some (as, r) → r.length ≤ 4 → cs + (mx a).1 ≤ lim.1 → ss + (mx a).2.1 ≤ lim.2.1 → call a as M = some (.inl w, M') → mq_G p l e R s m args below meth c Q nL E D cl A ad0 refs0 (pc + 3) lv (mq_psh w r) M' (cs + (mx a).1) (ss + (mx a).2.1) → mq_G p l e R s m args below meth c Q nL E D cl A ad0 refs0 pc lv st M cs ss)
    (hri : ∀ pc lv x M cs ss, decode cc pc = .ok (.ireturn, 1) → ((rt = some .boolean ∧ (x = 0 ∨ x = 1)) ∨ rt = some .int) → res = (.inl (some (.inl x)), M) → cs ≤ lim.1 → ss ≤ lim.2.1 → mq_G p l e R s m args below meth c Q nL E D cl A ad0 refs0 pc lv [.inl x] M cs ss)
    (hra : ∀ pc lv w M cs ss, decode cc pc = .ok (.areturn, 1) → (∃ ty, rt = some ty ∧ ((∃ n, ty = .object n) ∨ ∃ t, ty = .array t)) → res = (.inl (some (.inr w)), M) → cs ≤ lim.1 → ss ≤ lim.2.1 → mq_G p l e R s m args below meth c Q nL E D cl A ad0 refs0 pc lv [.inr (.inl w)] M cs ss)
    (hrv : ∀ pc lv M cs ss, decode cc pc = .ok (.return_, 1) → rt = none → res = (.inl none, M) → cs ≤ lim.1 → ss ≤ lim.2.1 → mq_G p l e R s m args below meth c Q nL E D cl A ad0 refs0 pc lv [] M cs ss)
    (hth : ∀ en ∈ code, ∀ ix, en.2.1 = .new ix → (E.1 en.2.2.2.1).1 = 8 → ∀ lv M cs ss, res = (.inr (E.1 en.2.2.2.1).2.1, M) → cs + 1 ≤ lim.1 → ss + (E.1 en.2.2.2.1).2.2 ≤ lim.2.1 → mq_G p l e R s m args below meth c Q nL E D cl A ad0 refs0 en.1 lv [] M cs ss) :
    ∀ (f pc : Nat) (lv : List (Nat × mLV)) (st : List mAV) (M : mMm) (cs ss : Nat), cs ≤ lim.1 → ss ≤ lim.2.1 → mq_loop E.1 sw hn mx call code lim scr f pc lv st M cs ss = some res → mq_G p l e R s m args below meth c Q nL E D cl A ad0 refs0 pc lv st M cs ss := by
  intro f
  induction f with
  | zero => intro pc lv st M cs ss _ _ h; cases h
  | succ f ih =>
    intro pc lv st M cs ss hcs hss h0
    have h : mq_st E.1 sw hn mx call code lim scr (mq_loop E.1 sw hn mx call code lim scr f) pc lv st M cs ss = some res := h0
    clear h0
    unfold mq_st at h
    cases hlk : mq_lk pc code with
    | none => rw [hlk] at h; cases h
    | some en =>
      rw [hlk] at h
      obtain ⟨pc', ins, nx, a, b, sc, v⟩ := en
      obtain ⟨hpc, hmem⟩ := mq_lk_spec hlk
      have hpc : pc' = pc := hpc
      subst hpc
      have ok := hok _ hmem
      clear hlk
      cases ins
      all_goals dsimp only at h
      all_goals first | (cases h; done) | skip
      case iadd =>
        obtain ⟨⟨hd, hnx⟩, -⟩ := ok
        subst hnx
        split at h
        · exact mq_g_iadd C hd (ih _ _ _ _ _ _ hcs hss h)
        · cases h
      case isub =>
        obtain ⟨⟨hd, hnx⟩, -⟩ := ok
        subst hnx
        split at h
        · exact mq_g_isub C hd (ih _ _ _ _ _ _ hcs hss h)
        · cases h
      case imul =>
        obtain ⟨⟨hd, hnx⟩, -⟩ := ok
        subst hnx
        split at h
        · exact mq_g_imul C hd (ih _ _ _ _ _ _ hcs hss h)
        · cases h
      case iand =>
        obtain ⟨⟨hd, hnx⟩, -⟩ := ok
        subst hnx
        split at h
        · exact mq_g_iand C hd (ih _ _ _ _ _ _ hcs hss h)
        · cases h
      case ior =>
        obtain ⟨⟨hd, hnx⟩, -⟩ := ok
        subst hnx
        split at h
        · exact mq_g_ior C hd (ih _ _ _ _ _ _ hcs hss h)
        · cases h
      case ixor =>
        obtain ⟨⟨hd, hnx⟩, -⟩ := ok
        subst hnx
        split at h
        · exact mq_g_ixor C hd (ih _ _ _ _ _ _ hcs hss h)
        · cases h
      case ishl =>
        obtain ⟨⟨hd, hnx⟩, -⟩ := ok
        subst hnx
        split at h
        · exact mq_g_ishl C hd (ih _ _ _ _ _ _ hcs hss h)
        · cases h
      case ishr =>
        obtain ⟨⟨hd, hnx⟩, -⟩ := ok
        subst hnx
        split at h
        · exact mq_g_ishr C hd (ih _ _ _ _ _ _ hcs hss h)
        · cases h
      case iushr =>
        obtain ⟨⟨hd, hnx⟩, -⟩ := ok
        subst hnx
        split at h
        · exact mq_g_iushr C hd (ih _ _ _ _ _ _ hcs hss h)
        · cases h
      case irem =>
        obtain ⟨⟨hd, hnx⟩, -⟩ := ok
        subst hnx
        split at h
        · split at h
          · cases h
          · rename_i hne
            exact mq_g_irem C hd hne (ih _ _ _ _ _ _ hcs hss h)
        · cases h
      case idiv =>
        obtain ⟨⟨hd, hnx⟩, -⟩ := ok
        subst hnx
        split at h
        · split at h
          · cases h
          · rename_i hne
            exact mq_g_idiv C hd hne (ih _ _ _ _ _ _ hcs hss h)
        · cases h
      case ineg =>
        obtain ⟨⟨hd, hnx⟩, -⟩ := ok
        subst hnx
        split at h
        · exact mq_g_ineg C hd (ih _ _ _ _ _ _ hcs hss h)
        · cases h
      case i2b =>
        obtain ⟨⟨hd, hnx⟩, -⟩ := ok
        subst hnx
        split at h
        · exact mq_g_i2b C hd (ih _ _ _ _ _ _ hcs hss h)
        · cases h
      case i2s =>
        obtain ⟨⟨hd, hnx⟩, -⟩ := ok
        subst hnx
        split at h
        · exact mq_g_i2s C hd (ih _ _ _ _ _ _ hcs hss h)
        · cases h
      case i2c =>
        obtain ⟨⟨hd, hnx⟩, -⟩ := ok
        subst hnx
        split at h
        · exact mq_g_i2c C hd (ih _ _ _ _ _ _ hcs hss h)
        · cases h
      case i2l =>
        obtain ⟨⟨hd, hnx⟩, -⟩ := ok
        subst hnx
        split at h
        · exact mq_g_i2l C hd (ih _ _ _ _ _ _ hcs hss h)
        · cases h
      case lcmp =>
        obtain ⟨⟨hd, hnx⟩, -⟩ := ok
        subst hnx
        split at h
        · exact mq_g_lcmp C hd (ih _ _ _ _ _ _ hcs hss h)
        · cases h
      case iconst n =>
        obtain ⟨⟨hd, hnx⟩, he⟩ := ok
        subst hnx
        exact mq_g_iconst C hd he (ih _ _ _ _ _ _ hcs hss h)
      case bipush n =>
        obtain ⟨⟨hd, hnx⟩, he⟩ := ok
        subst hnx
        exact mq_g_bipush C hd he (ih _ _ _ _ _ _ hcs hss h)
      case sipush n =>
        obtain ⟨⟨hd, hnx⟩, he⟩ := ok
        subst hnx
        exact mq_g_sipush C hd he (ih _ _ _ _ _ _ hcs hss h)
      case ldc n =>
        obtain ⟨⟨hd, hnx⟩, he⟩ := ok
        subst hnx
        exact mq_g_ldc C hd he (ih _ _ _ _ _ _ hcs hss h)
      case aconst_null =>
        obtain ⟨⟨hd, hnx⟩, -⟩ := ok
        subst hnx
        exact mq_g_null C hd (ih _ _ _ _ _ _ hcs hss h)
      case iload n =>
        obtain ⟨⟨hd, hnx⟩, -⟩ := ok
        subst hnx
        split at h
        · rename_i hi
          exact mq_g_iload C hd hi (ih _ _ _ _ _ _ hcs hss h)
        · cases h
      case iload_n n =>
        obtain ⟨⟨hd, hnx⟩, -⟩ := ok
        subst hnx
        split at h
        · rename_i hi
          exact mq_g_iload_n C hd hi (ih _ _ _ _ _ _ hcs hss h)
        · cases h
      case aload n =>
        obtain ⟨⟨hd, hnx⟩, -⟩ := ok
        subst hnx
        split at h
        · rename_i hi
          exact mq_g_aload C hd hi (ih _ _ _ _ _ _ hcs hss h)
        · cases h
      case aload_n n =>
        obtain ⟨⟨hd, hnx⟩, -⟩ := ok
        subst hnx
        split at h
        · rename_i hi
          exact mq_g_aload_n C hd hi (ih _ _ _ _ _ _ hcs hss h)
        · cases h
      case istore n =>
        obtain ⟨⟨hd, hnx⟩, he⟩ := ok
        subst hnx
        split at h
        · exact mq_g_istore C hd he (ih _ _ _ _ _ _ hcs hss h)
        · cases h
      case istore_n n =>
        obtain ⟨⟨hd, hnx⟩, he⟩ := ok
        subst hnx
        split at h
        · exact mq_g_istore_n C hd he (ih _ _ _ _ _ _ hcs hss h)
        · cases h
      case astore n =>
        obtain ⟨⟨hd, hnx⟩, he⟩ := ok
        subst hnx
        split at h
        · exact mq_g_astore C hd he (ih _ _ _ _ _ _ hcs hss h)
        · cases h
      case astore_n n =>
        obtain ⟨⟨hd, hnx⟩, he⟩ := ok
        subst hnx
        split at h
        · exact mq_g_astore_n C hd he (ih _ _ _ _ _ _ hcs hss h)
        · cases h
      case iinc i n =>
        obtain ⟨⟨hd, hnx⟩, he⟩ := ok
        subst hnx
        split at h
        · rename_i hi
          exact mq_g_iinc C hd he.2 hi he.1 (ih _ _ _ _ _ _ hcs hss h)
        · cases h
      case dup =>
        obtain ⟨⟨hd, hnx⟩, -⟩ := ok
        subst hnx
        split at h
        · split at h
          · rename_i hv
            exact mq_g_dup C hd hv (ih _ _ _ _ _ _ hcs hss h)
          · cases h
        · cases h
      case pop =>
        obtain ⟨⟨hd, hnx⟩, -⟩ := ok
        subst hnx
        split at h
        · split at h
          · rename_i hv
            exact mq_g_pop C hd hv (ih _ _ _ _ _ _ hcs hss h)
          · cases h
        · cases h
      case dup_x1 =>
        obtain ⟨⟨hd, hnx⟩, -⟩ := ok
        subst hnx
        split at h
        · split at h
          · rename_i hv hw
            exact mq_g_dup_x1 C hd hv hw (ih _ _ _ _ _ _ hcs hss h)
          · cases h
        · cases h
      case dup2 =>
        obtain ⟨⟨hd, hnx⟩, -⟩ := ok
        subst hnx
        split at h
        · split at h
          · rename_i hv hw
            exact mq_g_dup2 C hd hv hw (ih _ _ _ _ _ _ hcs hss h)
          · cases h
        · cases h
      case dup_x2 =>
        obtain ⟨⟨hd, hnx⟩, -⟩ := ok
        subst hnx
        split at h
        · split at h
          · rename_i hv hw hz
            exact mq_g_dup_x2 C hd hv hw hz (ih _ _ _ _ _ _ hcs hss h)
          · cases h
        · cases h
      case goto off =>
        obtain ⟨⟨hd, -⟩, he⟩ := ok
        exact mq_g_goto C hd he (ih _ _ _ _ _ _ hcs hss h)
      case ifCond cnd off =>
        obtain ⟨⟨hd, hnx⟩, he⟩ := ok
        subst hnx
        split at h
        · cases cnd
          all_goals dsimp only at h
          · refine mq_g_if_eq C hd he (fun q => ?_) (fun q => ?_)
            · exact ih _ _ _ _ _ _ hcs hss (by rw [if_pos q] at h; exact h)
            · exact ih _ _ _ _ _ _ hcs hss (by rw [if_neg q] at h; exact h)
          · refine mq_g_if_ne C hd he (fun q => ?_) (fun q => ?_)
            · exact ih _ _ _ _ _ _ hcs hss (by rw [if_neg q] at h; exact h)
            · exact ih _ _ _ _ _ _ hcs hss (by rw [if_pos q] at h; exact h)
          · refine mq_g_if_lt C hd he (fun q => ?_) (fun q => ?_)
            · exact ih _ _ _ _ _ _ hcs hss (by rw [if_pos q] at h; exact h)
            · exact ih _ _ _ _ _ _ hcs hss (by rw [if_neg q] at h; exact h)
          · refine mq_g_if_ge C hd he (fun q => ?_) (fun q => ?_)
            · exact ih _ _ _ _ _ _ hcs hss (by rw [if_neg q] at h; exact h)
            · exact ih _ _ _ _ _ _ hcs hss (by rw [if_pos q] at h; exact h)
          · refine mq_g_if_gt C hd he (fun q => ?_) (fun q => ?_)
            · exact ih _ _ _ _ _ _ hcs hss (by rw [if_pos q] at h; exact h)
            · exact ih _ _ _ _ _ _ hcs hss (by rw [if_neg q] at h; exact h)
          · refine mq_g_if_le C hd he (fun q => ?_) (fun q => ?_)
            · exact ih _ _ _ _ _ _ hcs hss (by rw [if_neg q] at h; exact h)
            · exact ih _ _ _ _ _ _ hcs hss (by rw [if_pos q] at h; exact h)
        · cases h
      case if_icmp cnd off =>
        obtain ⟨⟨hd, hnx⟩, he⟩ := ok
        subst hnx
        split at h
        · cases cnd
          all_goals dsimp only at h
          · refine mq_g_icmp_eq C hd he (fun q => ?_) (fun q => ?_)
            · exact ih _ _ _ _ _ _ hcs hss (by rw [if_pos q] at h; exact h)
            · exact ih _ _ _ _ _ _ hcs hss (by rw [if_neg q] at h; exact h)
          · refine mq_g_icmp_ne C hd he (fun q => ?_) (fun q => ?_)
            · exact ih _ _ _ _ _ _ hcs hss (by rw [if_neg q] at h; exact h)
            · exact ih _ _ _ _ _ _ hcs hss (by rw [if_pos q] at h; exact h)
          · refine mq_g_icmp_lt C hd he (fun q => ?_) (fun q => ?_)
            · exact ih _ _ _ _ _ _ hcs hss (by rw [if_pos q] at h; exact h)
            · exact ih _ _ _ _ _ _ hcs hss (by rw [if_neg q] at h; exact h)
          · refine mq_g_icmp_ge C hd he (fun q => ?_) (fun q => ?_)
            · exact ih _ _ _ _ _ _ hcs hss (by rw [if_neg q] at h; exact h)
            · exact ih _ _ _ _ _ _ hcs hss (by rw [if_pos q] at h; exact h)
          · refine mq_g_icmp_gt C hd he (fun q => ?_) (fun q => ?_)
            · exact ih _ _ _ _ _ _ hcs hss (by rw [if_pos q] at h; exact h)
            · exact ih _ _ _ _ _ _ hcs hss (by rw [if_neg q] at h; exact h)
          · refine mq_g_icmp_le C hd he (fun q => ?_) (fun q => ?_)
            · exact ih _ _ _ _ _ _ hcs hss (by rw [if_neg q] at h; exact h)
            · exact ih _ _ _ _ _ _ hcs hss (by rw [if_pos q] at h; exact h)
        · cases h
      case ifnull off =>
        obtain ⟨⟨hd, hnx⟩, he⟩ := ok
        subst hnx
        split at h
        · exact mq_g_ifnull_0 C hd he (ih _ _ _ _ _ _ hcs hss h)
        · exact mq_g_ifnull_1 C hd (ih _ _ _ _ _ _ hcs hss h)
        · cases h
      case ifnonnull off =>
        obtain ⟨⟨hd, hnx⟩, he⟩ := ok
        subst hnx
        split at h
        · exact mq_g_ifnonnull_0 C hd (ih _ _ _ _ _ _ hcs hss h)
        · exact mq_g_ifnonnull_1 C hd he (ih _ _ _ _ _ _ hcs hss h)
        · cases h
      case lookupswitch df ps =>
        obtain ⟨len, hd, hp, hx⟩ := ok
        split at h
        · rename_i x r
          have k := ih _ _ _ _ _ _ hcs hss h
          intro H locs ls ad refs hB hl hvl hvs
          exact lv_lookup C.1 C.2.1 hd hp rfl (hx x) (k H locs ls ad refs hB hl hvl (mq_vs_tl hvs))
        · cases h
      case tableswitch df lo hi offs =>
        obtain ⟨len, hd, ho, hx⟩ := ok
        split at h
        · rename_i x r
          have k := ih _ _ _ _ _ _ hcs hss h
          intro H locs ls ad refs hB hl hvl hvs
          have k := k H locs ls ad refs hB hl hvl (mq_vs_tl hvs)
          by_cases h1 : x.toInt < lo
          · exact lv_tableOut C.1 C.2.1 hd (Or.inl h1) (by rw [(ho x (Or.inl h1)).1]; exact (ho x (Or.inl h1)).2) k
          · by_cases h2 : hi < x.toInt
            · exact lv_tableOut C.1 C.2.1 hd (Or.inr h2) (by rw [(ho x (Or.inr h2)).1]; exact (ho x (Or.inr h2)).2) k
            · obtain ⟨off, h3, h4⟩ := hx x h1 h2
              exact lv_tableIn C.1 C.2.1 hd h1 h2 h3 h4 k
        · cases h
      case getfield ix =>
        obtain ⟨⟨hd, hnx⟩, he⟩ := ok
        subst hnx
        obtain ⟨C1, T, N, ty0, ⟨k1, k2, k3, k4, k5, k6⟩, hb, hlink, -, hsort⟩ := he
        split at h
        · rename_i q r
          split at h
          · rename_i hqa
            have hk : E.1 q.1 = (0, a, N) := by rw [hqa]; exact k1
            split at h
            · exact mq_g_get1 C h9 hk k2 k3 hb hsort.1 hlink hd (ih _ _ _ _ _ _ hcs hss h)
            · rename_i hne
              match sc, hsort, hne, h with
              | 0, hsort, _, h => exact mq_g_get0 C h9 hk k2 k3 hb hsort.1 hlink hd (ih _ _ _ _ _ _ hcs hss h)
              | 1, _, hne, _ => exact absurd rfl hne
              | 2, hsort, _, h => exact mq_g_get0 C h9 hk k2 k3 hb hsort.1 hlink hd (ih _ _ _ _ _ _ hcs hss h)
              | n + 3, hsort, _, _ => exact hsort.elim
          · cases h
        · cases h
      case putfield ix =>
        obtain ⟨⟨hd, hnx⟩, he⟩ := ok
        subst hnx
        obtain ⟨C1, T, N, ty0, ⟨k1, k2, k3, k4, k5, k6⟩, hb, hlink, hfin, hsort⟩ := he
        have hfin : (T b).2.2.2 = false ∨ ((T b).2.2.2 = true ∧ meth.name = "<init>" ∧ (T b).1 = own) := hfin.imp id (fun z => ⟨z.1, hini z.2.1, z.2.2⟩)
        split at h
        · rename_i x q r
          split at h
          · rename_i hqa
            have hk : E.1 q.1 = (0, a, N) := by rw [hqa]; exact k1
            match sc, hsort, h with
            | 0, hsort, h => exact mq_g_put0 C h9 hk k2 k3 ty0 k4 k5 hb hsort.1 hlink hfin (by rw [hsort.2]; rfl) (by rw [hsort.2]; rfl) hd (ih _ _ _ _ _ _ hcs hss h)
            | 1, _, h => cases h
            | 2, hsort, h =>
              have h : (if x = 0 ∨ x = 1 then _ else none) = some res := h
              split at h
              · rename_i hx
                exact mq_g_put0 C h9 hk k2 k3 ty0 k4 k5 hb hsort.1 hlink hfin (by rw [hsort.2]; rcases hx with rfl | rfl <;> rfl) (by rw [hsort.2]; rcases hx with rfl | rfl <;> rfl) hd (ih _ _ _ _ _ _ hcs hss h)
              · cases h
            | n + 3, hsort, _ => exact hsort.elim
          · cases h
        · rename_i w q r
          split at h
          · rename_i hqa
            have hk : E.1 q.1 = (0, a, N) := by rw [hqa]; exact k1
            match sc, hsort, h with
            | 0, _, h => cases h
            | 1, hsort, h =>
              have h : (if w = some mq_sr then none else _) = some res := h
              split at h
              · cases h
              · rename_i hw9
                exact mq_g_put1 C h9 hw9 hk k2 k3 ty0 k4 k5 hb hsort.1 hlink hfin hsort.2 hd (ih _ _ _ _ _ _ hcs hss h)
            | 2, _, h => cases h
            | n + 3, hsort, _ => exact hsort.elim
          · cases h
        · cases h
      case arraylength =>
        obtain ⟨⟨hd, hnx⟩, -⟩ := ok
        subst hnx
        split at h
        · rename_i q r
          split at h
          · rename_i ht
            exact mq_g_alen (z := ((E.1 q.1).2.2, .inl (M.2.1 q.1 q.2))) C h9 rfl (by rw [ht]; decide) (fun ad => mq_ceS (ci := (E.1 q.1).2.1) (.inl rfl) (by rw [← ht])) rfl htI hd (ih _ _ _ _ _ _ hcs hss h)
          · rename_i ht
            obtain ⟨C1, T, N, t0, -, hcl, ht0⟩ := htQ q.1 ht
            intro H locs ls ad refs hB hl hvl hvs
            have hm : q ∈ refs := mq_in h9 (hvs q List.mem_cons_self) rfl (by rw [ht]; decide)
            obtain ⟨j, hj⟩ := List.getElem?_of_mem hm
            have he := mq_W_at (E := E) (ad := ad) (M := M) hj
            rw [mq_ce3 (q := q) (ci := (E.1 q.1).2.1) (N := (E.1 q.1).2.2) (by rw [← ht])] at he
            exact va_alen C.1 C.2.1 C.2.2.2.2.2.1 hB.1 j t0 he ht0 rfl hd ((ih _ _ _ _ _ _ hcs hss h) H locs ls ad refs hB hl hvl (mq_vs_int (mq_vs_tl hvs)))
          · split at h
            · rename_i hq
              subst hq
              split at h
              · rename_i w hw
                exact mq_g_slen C (hscr _ rfl) hd (ih _ _ _ _ _ _ hcs hss h)
              · cases h
            · cases h
          · cases h
        · cases h
      case iaload =>
        obtain ⟨⟨hd, hnx⟩, -⟩ := ok
        subst hnx
        split at h
        · rename_i i q r
          split at h
          · rename_i ht
            split at h
            · cases h
            · rename_i hin
              exact mq_g_iald (ci := (E.1 q.1).2.1) (N := (E.1 q.1).2.2) C h9 (by rw [← ht]) htI hin hd (ih _ _ _ _ _ _ hcs hss h)
          · split at h
            · rename_i hq
              subst hq
              split at h
              · rename_i w hw
                split at h
                · cases h
                · rename_i hin
                  exact mq_g_sld C (hscr _ rfl) hin hd (ih _ _ _ _ _ _ hcs hss h)
              · cases h
            · cases h
          · cases h
        · cases h
      case baload =>
        obtain ⟨⟨hd, hnx⟩, -⟩ := ok
        subst hnx
        split at h
        · rename_i i q r
          split at h
          · rename_i ht
            split at h
            · cases h
            · rename_i hin
              exact mq_g_bald (ci := (E.1 q.1).2.1) (N := (E.1 q.1).2.2) C h9 (by rw [← ht]) htB hin hd (ih _ _ _ _ _ _ hcs hss h)
          · rename_i ht
            split at h
            · cases h
            · rename_i hin
              exact mq_g_zald (ci := (E.1 q.1).2.1) (N := (E.1 q.1).2.2) C h9 (by rw [← ht]) htZ hin hd (ih _ _ _ _ _ _ hcs hss h)
          · cases h
        · cases h
      case bastore =>
        obtain ⟨⟨hd, hnx⟩, -⟩ := ok
        subst hnx
        split at h
        · rename_i x i q r
          split at h
          · rename_i ht
            split at h
            · cases h
            · rename_i hin
              exact mq_g_bast (ci := (E.1 q.1).2.1) (N := (E.1 q.1).2.2) C h9 (by rw [← ht]) htB hin hd (ih _ _ _ _ _ _ hcs hss h)
          · rename_i ht
            split at h
            · cases h
            · rename_i hin
              split at h
              · rename_i hx
                exact mq_g_zast (ci := (E.1 q.1).2.1) (N := (E.1 q.1).2.2) C h9 (by rw [← ht]) htZ hin hx hd (ih _ _ _ _ _ _ hcs hss h)
              · cases h
          · cases h
        · cases h
      case ldc2_w n =>
        obtain ⟨⟨hd, hnx⟩, he⟩ := ok
        subst hnx
        exact mq_g_ldc2 C hd he (ih _ _ _ _ _ _ hcs hss h)
      case land =>
        obtain ⟨⟨hd, hnx⟩, -⟩ := ok
        subst hnx
        split at h
        · exact mq_g_land C hd (ih _ _ _ _ _ _ hcs hss h)
        · cases h
      case laload =>
        obtain ⟨⟨hd, hnx⟩, -⟩ := ok
        subst hnx
        split at h
        · rename_i i q r
          split at h
          · rename_i ht
            split at h
            · cases h
            · rename_i hin
              exact mq_g_lald (ci := (E.1 q.1).2.1) (N := (E.1 q.1).2.2) C h9 (by rw [← ht]) htL hin hd (ih _ _ _ _ _ _ hcs hss h)
          · cases h
        · cases h
      case aaload =>
        obtain ⟨⟨hd, hnx⟩, -⟩ := ok
        subst hnx
        split at h
        · rename_i i q r
          split at h
          · rename_i ht
            obtain ⟨C1, T, N, t0, -, hcl, ht0⟩ := htQ q.1 ht
            split at h
            · cases h
            · rename_i hin
              exact mq_g_aald (ci := (E.1 q.1).2.1) (N := (E.1 q.1).2.2) C h9 (by rw [← ht]) ht0 hin hd (ih _ _ _ _ _ _ hcs hss h)
          · cases h
        · cases h
      case iastore =>
        obtain ⟨⟨hd, hnx⟩, -⟩ := ok
        subst hnx
        split at h
        · rename_i x i q r
          split at h
          · rename_i ht
            split at h
            · cases h
            · rename_i hin
              exact mq_g_iast (ci := (E.1 q.1).2.1) (N := (E.1 q.1).2.2) C h9 (by rw [← ht]) htI hin hd (ih _ _ _ _ _ _ hcs hss h)
          · cases h
        · cases h
      case lastore =>
        obtain ⟨⟨hd, hnx⟩, -⟩ := ok
        subst hnx
        split at h
        · rename_i x i q r
          split at h
          · rename_i ht
            split at h
            · cases h
            · rename_i hin
              exact mq_g_last (ci := (E.1 q.1).2.1) (N := (E.1 q.1).2.2) C h9 (by rw [← ht]) htL hin hd (ih _ _ _ _ _ _ hcs hss h)
          · cases h
        · cases h
      case aastore =>
        obtain ⟨⟨hd, hnx⟩, -⟩ := ok
        subst hnx
        split at h
        · rename_i y i q r
          split at h
          · rename_i ht
            obtain ⟨C1, T, N, t0, hkc, hcl, ht0⟩ := htQ q.1 ht
            split at h
            · cases h
            · rename_i hin
              split at h
              · rename_i hy
                have hyk : y.1 = (E.1 q.1).2.1 := (htO y.1 hy.1).symm.trans hy.2
                exact mq_g_aast (ci := (E.1 q.1).2.1) (N := (E.1 q.1).2.2) C h9 (by rw [← ht]) (by rw [hyk]; exact hkc) hcl ht0 hin hd (ih _ _ _ _ _ _ hcs hss h)
              · cases h
          · cases h
        · cases h
      case new ix =>
        have hth := hth _ hmem ix rfl
        obtain ⟨⟨hd, hnx⟩, he⟩ := ok
        subst hnx
        split at h
        · rename_i hlim
          split at h
          · rename_i ht
            obtain ⟨hne, C1, T, N, ty0, ⟨k1, k2, k3, k4, k5, k6⟩, j1, j2, j3⟩ := he ht
            rw [k1] at hlim h
            exact mq_g_new C hne k1 k2 k3 ty0 k4 k6 j1 j2 j3 ⟨Nat.le_trans hlim.1 hR.2.2.1, Nat.le_trans hlim.2 hR.2.2.2⟩ hd (ih _ _ _ _ _ _ hlim.1 hlim.2 h)
          · rename_i ht
            split at h
            · cases h
              exact hth ht lv M cs ss rfl hlim.1 hlim.2
            · cases h
          · cases h
        · cases h
      case newarray t =>
        obtain ⟨⟨hd, hnx⟩, he⟩ := ok
        subst hnx
        obtain ⟨hne, hN, hs⟩ := he
        split at h
        · rename_i n r
          split at h
          · rename_i hlim
            obtain ⟨hn0, hlim⟩ := hlim
            subst hn0
            rcases hs with ⟨rfl, h1, h2⟩ | ⟨rfl, h1, h2⟩ | ⟨rfl, h1, h2⟩ | ⟨rfl, h1, h2⟩
            · exact mq_g_newi (ci := (E.1 a).2.1) C hne (by rw [← h1]) htI hN h2 ⟨Nat.le_trans hlim.1 hR.2.2.1, Nat.le_trans hlim.2 hR.2.2.2⟩ hd (ih _ _ _ _ _ _ hlim.1 hlim.2 h)
            · exact mq_g_newl (ci := (E.1 a).2.1) C hne (by rw [← h1]) htL hN h2 ⟨Nat.le_trans hlim.1 hR.2.2.1, Nat.le_trans hlim.2 hR.2.2.2⟩ hd (ih _ _ _ _ _ _ hlim.1 hlim.2 h)
            · exact mq_g_newb (ci := (E.1 a).2.1) C hne (by rw [← h1]) htB hN h2 ⟨Nat.le_trans hlim.1 hR.2.2.1, Nat.le_trans hlim.2 hR.2.2.2⟩ hd (ih _ _ _ _ _ _ hlim.1 hlim.2 h)
            · exact mq_g_newz (ci := (E.1 a).2.1) C hne (by rw [← h1]) htZ hN h2 ⟨Nat.le_trans hlim.1 hR.2.2.1, Nat.le_trans hlim.2 hR.2.2.2⟩ hd (ih _ _ _ _ _ _ hlim.1 hlim.2 h)
          · cases h
        · cases h
      case anewarray ix =>
        obtain ⟨⟨hd, hnx⟩, he⟩ := ok
        subst hnx
        obtain ⟨hne, hN, h1, C1, t0, ht0, hcl, hao⟩ := he
        split at h
        · rename_i n r
          split at h
          · rename_i hlim
            obtain ⟨hn0, hlim⟩ := hlim
            subst hn0
            exact mq_g_newq (ci := (E.1 a).2.1) C hne (by rw [← h1]) ht0 hN hcl (hao s C.2.2.2.2.2.2.2.1) ⟨Nat.le_trans hlim.1 hR.2.2.1, Nat.le_trans hlim.2 hR.2.2.2⟩ hd (ih _ _ _ _ _ _ hlim.1 hlim.2 h)
          · cases h
        · cases h
      case invokespecial ix =>
        obtain ⟨⟨hd, hnx⟩, he⟩ := ok
        subst hnx
        split at h
        · rename_i q as r hpop
          split at h
          · rename_i hr4
            cases a with
            | zero =>
              obtain ⟨hb, e1, e2, e3⟩ := he
              subst hb
              obtain ⟨hlen, hst⟩ := mq_pop_st hpop
              have has : as = [] := by simpa using hlen
              subst has
              have hst : st = .inr (.inl (some q)) :: r := hst
              subst hst
              exact mq_g_obj C e1 e2 e3 hr4 ⟨by have := hR.1; omega, by have := hR.2.1; omega⟩ hd (ih _ _ _ _ _ _ hcs hss h)
            | succ a =>
              obtain ⟨nA, hb, hk, hnm, hinst, hret⟩ := he
              dsimp only at h
              split at h
              · rename_i hlim
                split at h
                · rename_i w M' hc
                  obtain ⟨hlen, hst⟩ := mq_pop_st hpop
                  have hlen' : as.length = nA := by simp only [List.length_cons] at hlen; omega
                  have hf : cs + (mx a).1 ≤ R.cells ∧ ss + (mx a).2.1 ≤ R.slots := ⟨Nat.le_trans hlim.1 hR.2.2.1, Nat.le_trans hlim.2 hR.2.2.2⟩
                  rcases hk.2.2.1 with hl | ⟨host, hl⟩
                  · have hB := mq_callB (mx := mx) C hR hk hl
                    rw [hret] at hB
                    exact mq_g_callI C hpop (hcall _ _ _ _ _ hc) ⟨hB, hnm, C.2.2.2.2.1 _ hinst⟩ hlen' hr4 hf hd (ih _ _ _ _ _ _ hlim.1 hlim.2 h)
                  · have hB := mq_callN (mx := mx) C hR hk (hl s C.2.2.2.2.2.2.2.1)
                    rw [hret] at hB
                    exact mq_g_callIN C hpop (hcall _ _ _ _ _ hc) ⟨hB, hnm, C.2.2.2.2.1 _ hinst⟩ hlen' hr4 hf hd (ih _ _ _ _ _ _ hlim.1 hlim.2 h)
                · cases h
              · cases h
          · cases h
        · cases h
      case invokevirtual ix =>
        obtain ⟨⟨hd, hnx⟩, he⟩ := ok
        subst hnx
        obtain ⟨nA, qC, hb, hk, hinst, hqC, hsel⟩ := he
        split at h
        · rename_i q as r hpop
          split at h
          · rename_i hlim
            obtain ⟨t1, t2, hr4, hlim⟩ := hlim
            split at h
            · rename_i w M' hc
              obtain ⟨hlen, hst⟩ := mq_pop_st hpop
              exact mq_g_callV (ci := (E.1 q.1).2.1) (N := (E.1 q.1).2.2) C h9 hpop (by rw [← t1]) (by rw [t2]; exact hqC) (hcall _ _ _ _ _ hc) ⟨mq_callB C hR hk hk.2.2.1, C.2.2.2.2.1 _ hinst, C.2.2.2.2.1 _ hsel⟩ (by simp only [List.length_cons] at hlen; omega) hr4 ⟨Nat.le_trans hlim.1 hR.2.2.1, Nat.le_trans hlim.2 hR.2.2.2⟩ hd (ih _ _ _ _ _ _ hlim.1 hlim.2 h)
            · rename_i x M' hc
              split at h
              · rename_i hp hhp
                exact hcat _ _ _ _ _ _ _ hmem _ _ _ _ _ _ _ _ _ _ _ hpop t1 t2 hr4 hlim.1 hlim.2 hc hhp (ih _ _ _ _ _ _ hlim.1 hlim.2 h)
              · cases h
            · cases h
          · cases h
        · cases h
      case invokestatic ix =>
        obtain ⟨⟨hd, hnx⟩, he⟩ := ok
        subst hnx
        split at h
        · obtain ⟨e1, e2, e3, e4⟩ := he
          split at h
          · split at h
            · rename_i hr4
              exact mq_g_min C e1 e2 e3 e4 hr4 ⟨by have := hR.1; omega, by have := hR.2.1; omega⟩ ⟨Nat.le_trans hcs hR.2.2.1, Nat.le_trans hss hR.2.2.2⟩ hd (ih _ _ _ _ _ _ hcs hss h)
            · cases h
          · cases h
        · rename_i hne7
          split at h
          · rename_i as r hpop
            split at h
            · rename_i hlim
              obtain ⟨hr4, hlim⟩ := hlim
              split at h
              · rename_i w M' hc
                obtain ⟨hlen, hst⟩ := mq_pop_st hpop
                by_cases h8 : sc = 8
                · subst h8
                  exact hcw _ _ _ _ _ _ hmem _ _ _ _ _ _ _ _ _ hpop hr4 hlim.1 hlim.2 hc (ih _ _ _ _ _ _ hlim.1 hlim.2 h)
                · have he : mq_okk Ts Z a b (Jvm.Cond.methodLink own ix (Z.1 a) ∈ Ts ∨ ∃ host, ∀ s : State, X s → va_Nw (.methodLinkNest own ix (Z.1 a) host) s) ∧ Jvm.Cond.static (Z.1 a) ∈ Ts := by
                    unfold mq_ext at he
                    dsimp only at he
                    split at he
                    · exact absurd rfl hne7
                    · exact absurd rfl h8
                    · exact he
                  obtain ⟨hk, hstt⟩ := he
                  have hf : cs + (mx a).1 ≤ R.cells ∧ ss + (mx a).2.1 ≤ R.slots := ⟨Nat.le_trans hlim.1 hR.2.2.1, Nat.le_trans hlim.2 hR.2.2.2⟩
                  rcases hk.2.2.1 with hl | ⟨host, hl⟩
                  · exact mq_g_callS C hpop (hcall _ _ _ _ _ hc) ⟨mq_callB C hR hk hl, C.2.2.2.2.1 _ hstt⟩ hlen hr4 hf hd (ih _ _ _ _ _ _ hlim.1 hlim.2 h)
                  · exact mq_g_callSN C hpop (hcall _ _ _ _ _ hc) ⟨mq_callN C hR hk (hl s C.2.2.2.2.2.2.2.1), C.2.2.2.2.1 _ hstt⟩ hlen hr4 hf hd (ih _ _ _ _ _ _ hlim.1 hlim.2 h)
              · cases h
            · cases h
          · cases h
      case ireturn =>
        obtain ⟨⟨hd, -⟩, he⟩ := ok
        split at h
        · rename_i x
          split at h
          · split at h
            · rename_i hx
              cases h
              exact hri _ _ _ _ _ _ hd (he.imp (fun z => ⟨z.1, hx⟩) id) rfl hcs hss
            · cases h
          · rename_i hne
            cases h
            exact hri _ _ _ _ _ _ hd (he.imp (fun z => absurd z.2 hne) id) rfl hcs hss
        · cases h
      case areturn =>
        obtain ⟨⟨hd, -⟩, he⟩ := ok
        split at h
        · cases h
          exact hra _ _ _ _ _ _ hd he rfl hcs hss
        · cases h
      case return_ =>
        obtain ⟨⟨hd, -⟩, he⟩ := ok
        split at h
        · cases h
          exact hrv _ _ _ _ _ hd he rfl hcs hss
        · cases h
end MQX
end
section
/-! Every method by its number: what the machine answers at depth d is its contract. -/
theorem mq_lv_args (ad : Nat × Nat → Nat) : ∀ (as : List mLV) (i : Nat), lv_args i (as.map (mq_cl ad)) = mq_lm ad (mq_en i as)
  | [], _ => rfl
  | v :: r, i => by
    have h := mq_lv_args ad r (i + 1)
    simp only [List.map_cons, lv_args, mq_cl_cat, mq_en, mq_lm] at h ⊢
    rw [if_neg (by decide), h]
theorem mq_sl_len (ad : Nat × Nat → Nat) : ∀ as : List mLV, (lg_sl (as.map (mq_cl ad))).length = as.length
  | [] => rfl
  | v :: r => by
    have h := mq_sl_len ad r
    simp only [lg_sl, List.map_cons, List.flatMap_cons, mq_cl_cat, List.length_append, List.length_cons] at h ⊢
    rw [if_neg (by decide), h]
    simp only [List.length_cons, List.length_nil]
    omega
theorem mq_en_mem {as : List mLV} {v : mLV} : ∀ {i j : Nat}, (j, v) ∈ mq_en i as → v ∈ as := by
  induction as with
  | nil => intro i j h; cases h
  | cons w r ih =>
    intro i j h
    rcases List.mem_cons.mp h with h | h
    · rw [(Prod.mk.inj h).2]; exact List.mem_cons_self
    · exact List.mem_cons_of_mem _ (ih h)
/-- a method's own rows are in order -/
def mq_okm (cl : List vw_C) (tys : List (ClassId × FieldType)) (E : mEv) (Z : mCe) (sw : Nat → List (Int32 × Nat)) (mx : Nat → Nat × Nat × Nat) (X : State → Prop) (mi : Nat) (code : List mEn) : Prop :=
  plainName (Z.1 mi).cls = true ∧ (code.all fun en => en.2.2.2.2.2.1 != 8) = true ∧ ∀ en ∈ code, mq_ok (Z.2.1 mi) (Z.2.2.1 mi) (Z.1 mi).cls (mq_ws Z mi) cl tys E Z sw mx (decide ((Z.1 mi).name = "<init>")) (Z.2.2.2.1 mi) X en
set_option maxHeartbeats 4000000 in
theorem mq_sound {l : Launch} {E : mEv} {D : va_G} {cl : List vw_C} {tys : List (ClassId × FieldType)} {Z : mCe} {sw : Nat → List (Int32 × Nat)} {hn : Nat → Nat → Option Nat} {mx : Nat → Nat × Nat × Nat} {X : State → Prop} {cd : Nat → List mEn} {F : Nat}
    (hXs : ∀ u U : State, u.WarmedH U.vm → X u → X U) (h9 : (E.1 999).1 = 9) {tI tL tB tZ : Nat} (htI : tys[tI]? = some (E.2.2 1, .int)) (htL : tys[tL]? = some (E.2.2 2, .long)) (htB : tys[tB]? = some (E.2.2 4, .byte)) (htZ : tys[tZ]? = some (E.2.2 5, .boolean))
    (htQ : ∀ k, (E.1 k).1 = 3 → ∃ (C1 : String) (T : u_T) (N t0 : Nat), E.1 (E.1 k).2.1 = (0, (E.1 k).2.1, N) ∧ cl[(E.1 k).2.1]? = some (C1, T, N) ∧ tys[t0]? = some (E.2.2 (100 + (E.1 k).2.1), .object C1))
    (htO : ∀ k, (E.1 k).1 = 0 → (E.1 k).2.1 = k) (hnh : ∀ q w, hn q w = none)
    (hok : ∀ mi, cd mi ≠ [] → mq_okm cl tys E Z sw mx X mi (cd mi)) :
    ∀ (d mi : Nat) (as : List mLV) (M : mMm) (rv : Option mLV) (M' : mMm), mq_ex E.1 sw hn mx Z.2.2.1 cd F d mi as M = some (.inl rv, M') → mq_Met l X E D cl tys (Z.1 mi) (mq_ws Z mi) (mq_rm mx d mi) (mx mi).1 (mx mi).2.1 as M rv M' := by
  intro d
  induction d with
  | zero => intro mi as M rv M' h; cases h
  | succ d ih =>
    intro mi as M rv M' h ad refs sz hV hva
    have h : (if as.length ≤ Z.2.2.1 mi then mq_loop E.1 sw hn mx (mq_ex E.1 sw hn mx Z.2.2.1 cd F d) (cd mi) (mx mi) none F 0 (mq_en 0 as) [] M 0 0 else none) = some (.inl rv, M') := h
    split at h
    · rename_i hlen
      have hne : cd mi ≠ [] := by
        intro h0
        rw [h0] at h
        cases F with
        | zero => cases h
        | succ f => cases h
      obtain ⟨hpl, hno8, hrows⟩ := hok mi hne
      refine Met.ofW (cc := Z.2.1 mi) (maxL := Z.2.2.1 mi) (ret := Z.2.2.2.1 mi) hpl rfl ?_
      intro p e s m args below meth c s₁ B hml hv
      obtain ⟨rfl, hsz, hP, hK, hD0, hX⟩ := hv
      have hr := B.returns
      have hts := atoms_spec (ws := mq_ws Z mi) B.pre
      have hown : s.vm.findClass (Z.1 mi).cls = some m.cls := findClass_of_methodNamed B.named
      have hlocks := B.notSynchronized
      have hname : meth.name = (Z.1 mi).name := (name_of_methodNamed B.named B.method).1
      subst hsz
      have hD := hD0.self (sz := s.heap.size)
      have C : mq_C p s m (as.map (mq_cl ad)).toArray c (Z.2.1 mi) (Z.2.2.1 mi) (Z.1 mi).cls (mq_ws Z mi) D cl tys (va_A (mq_W E ad refs M) s.heap.size) X := ⟨B.exec, B.bytes, hml, hown, hts, hK, fun q h => Or.inr h, hX, hXs⟩
      have hl := lv_entry (as.map (mq_cl ad)) (n := Z.2.2.1 mi) (by rw [mq_sl_len]; exact hlen)
      rw [lg_entry_eq]
      generalize (lg_sl (as.map (mq_cl ad)) ++ List.replicate (Z.2.2.1 mi - (lg_sl (as.map (mq_cl ad))).length) Slot.unset).toArray = ls at hl ⊢
      rw [mq_lv_args] at hl
      exact mq_main (res := (.inl rv, M')) (rt := Z.2.2.2.1 mi) (lim := mx mi) (d := d) C h9 (fun hi => by rw [hname]; exact of_decide_eq_true hi) htI htL htB htZ htQ htO hrows (fun a as M rv M' h => ih a as M rv M' h) ⟨Nat.le_refl _, Nat.le_refl _, Nat.le_refl _, Nat.le_refl _⟩ (fun w h => by cases h) (fun pc ix nx a b sc v _ lv st M cs ss q as r x M' hp _ _ _ _ _ _ _ hh => by rw [hnh] at hh; cases hh)
        (fun pc ix nx a b v hm lv st M cs ss as r w M' _ _ _ _ _ _ => by have h8 := List.all_eq_true.mp hno8 _ hm; cases h8)
        (fun pc lv x M1 cs ss hd hb he hcs hss => by
          cases he
          rcases hb with ⟨hb, hx⟩ | hb
          · exact mq_r_int C (ty := .boolean) (hr.trans hb) (by rcases hx with rfl | rfl <;> rfl) hlocks hcs hss hd
          · exact mq_r_int C (ty := .int) (hr.trans hb) rfl hlocks hcs hss hd)
        (fun pc lv w M1 cs ss hd hb he hcs hss => by
          cases he
          obtain ⟨ty, hb, hty⟩ := hb
          exact mq_r_ref C (ty := ty) (hr.trans hb) hty hlocks hcs hss hd)
        (fun pc lv M1 cs ss hd hb he hcs hss => by
          cases he
          exact mq_r_void C (hr.trans hb) hlocks hcs hss hd)
        (fun en _ ix _ _ lv M1 cs ss he _ _ => by cases he)
        F 0 (mq_en 0 as) [] M 0 0 (Nat.zero_le _) (Nat.zero_le _) h s.heap [] ls ad refs ⟨hP, hD, va_S.rf, hV, fun _ h => h, fun _ _ => rfl⟩ hl (fun i r h => hva r (mq_en_mem h)) (fun r h => by cases h)
    · cases h
end
section
/-! A method's rows, by program: its bytes decoded at once, the rest row by row. -/
def mq_swok (pc : Nat) : Int → List (Int32 × Nat) → List Int → Prop
  | _, [], [] => True
  | lo, q :: P, o :: os => q.1.toInt = lo ∧ (pc : Int) + o = (q.2 : Int) ∧ mq_swok pc (lo + 1) P os
  | _, _, _ => False
def mq_lsok (pc : Nat) : List (Int32 × Nat) → List (Int × Int) → Prop
  | [], [] => True
  | q :: P, o :: os => q.1.toInt = o.1 ∧ (pc : Int) + o.2 = (q.2 : Int) ∧ mq_lsok pc P os
  | _, _ => False
theorem mq_swok_out {pc a : Nat} {x : Int32} : ∀ {P : List (Int32 × Nat)} {lo : Int} {os : List Int}, mq_swok pc lo P os → (x.toInt < lo ∨ lo + P.length ≤ x.toInt) → mq_swt x a P = a
  | [], _, [], _, _ => rfl
  | [], _, _ :: _, h, _ => h.elim
  | _ :: _, _, [], h, _ => h.elim
  | q :: P, lo, o :: os, h, hx => by
    obtain ⟨h1, h2, h3⟩ := h
    have hne : ¬ x = q.1 := by
      intro e
      rw [e, h1] at hx
      simp only [List.length_cons] at hx
      omega
    unfold mq_swt
    rw [if_neg hne]
    exact mq_swok_out h3 (by simp only [List.length_cons] at hx; omega)
theorem mq_swok_in {pc a : Nat} {x : Int32} : ∀ {P : List (Int32 × Nat)} {lo : Int} {os : List Int}, mq_swok pc lo P os → lo ≤ x.toInt → x.toInt < lo + P.length → ∃ off, os[(x.toInt - lo).toNat]? = some off ∧ (pc : Int) + off = (mq_swt x a P : Nat)
  | [], lo, _, _, h1, h2 => by simp only [List.length_nil] at h2; omega
  | _ :: _, _, [], h, _, _ => h.elim
  | q :: P, lo, o :: os, h, h1, h2 => by
    obtain ⟨g1, g2, g3⟩ := h
    by_cases e : x = q.1
    · refine ⟨o, ?_, ?_⟩
      · rw [e, g1, Int.sub_self]; rfl
      · unfold mq_swt
        rw [if_pos e]
        exact g2
    · have hlt : lo < x.toInt := by
        rcases Int.lt_or_eq_of_le h1 with h | h
        · exact h
        · exact absurd (Int32.toInt_inj.mp (by rw [g1, ← h])) e
      obtain ⟨off, k1, k2⟩ := mq_swok_in (a := a) (x := x) g3 (by omega) (by simp only [List.length_cons] at h2; omega)
      refine ⟨off, ?_, ?_⟩
      · have e2 : (x.toInt - lo).toNat = (x.toInt - (lo + 1)).toNat + 1 := by omega
        rw [e2, List.getElem?_cons_succ]
        exact k1
      · unfold mq_swt
        rw [if_neg e]
        exact k2
theorem mq_lsok_at {pc a : Nat} {d : Int} {x : Int32} (hd : (pc : Int) + d = (a : Int)) : ∀ {P : List (Int32 × Nat)} {os : List (Int × Int)}, mq_lsok pc P os → (pc : Int) + Op.lookupswitch.offset os d x.toInt = (mq_swt x a P : Nat)
  | [], [], _ => hd
  | [], _ :: _, h => h.elim
  | _ :: _, [], h => h.elim
  | q :: P, (k, o) :: os, h => by
    obtain ⟨g1, g2, g3⟩ := h
    unfold mq_swt
    rw [Op.lookupswitch.offset_cons]
    by_cases e : x = q.1
    · rw [if_pos (by rw [e]; exact g1.symm), if_pos e]
      exact g2
    · rw [if_neg (fun z => e (Int32.toInt_inj.mp (by rw [g1]; exact z.symm))), if_neg e]
      exact mq_lsok_at hd g3
def mq_okx (nL : Nat) (own : String) (Ts : List Cond) (cl : List vw_C) (tys : List (ClassId × FieldType)) (E : mEv) (Z : mCe) (sw : Nat → List (Int32 × Nat)) (mx : Nat → Nat × Nat × Nat) (ini : Bool) (rt : Option FieldType) (X : State → Prop) : mEn → Prop
  | (pc, ins, nx, a, b, c, v) =>
    match ins with
    | .tableswitch d lo hi offs => (pc : Int) + d = (a : Int) ∧ hi + 1 = lo + (sw b).length ∧ mq_swok pc lo (sw b) offs.toList
    | .lookupswitch d ps => (pc : Int) + d = (a : Int) ∧ (ps.toList.zip (ps.toList.drop 1)).all (fun (a, next) => a.1 < next.1) = true ∧ mq_lsok pc (sw b) ps.toList
    | ins => nx = pc + mq_len ins ∧ mq_ext nL own Ts cl tys E Z mx ini rt X (pc, ins, nx, a, b, c, v)
def mq_all (P : mEn → Prop) : List mEn → Prop
  | [] => True
  | e :: r => P e ∧ mq_all P r
theorem mq_all_mem {P : mEn → Prop} : ∀ {l : List mEn}, mq_all P l → ∀ e ∈ l, P e
  | [], _, e, h => by cases h
  | w :: r, hp, e, h => by
    rcases List.mem_cons.mp h with h | h
    · rw [h]; exact hp.1
    · exact mq_all_mem hp.2 e h
set_option maxHeartbeats 4000000 in
set_option maxRecDepth 100000 in
theorem mq_ok_of {cc : ByteArray} {nL : Nat} {own : String} {Ts : List Cond} {cl : List vw_C} {tys : List (ClassId × FieldType)} {E : mEv} {Z : mCe} {sw : Nat → List (Int32 × Nat)} {mx : Nat → Nat × Nat × Nat} {ini : Bool} {rt : Option FieldType} {X : State → Prop} {code : List mEn}
    (hd : ∀ en ∈ code, decode cc en.1 = .ok (en.2.1, en.2.2.1 - en.1)) (hx : mq_all (mq_okx nL own Ts cl tys E Z sw mx ini rt X) code) : ∀ en ∈ code, mq_ok cc nL own Ts cl tys E Z sw mx ini rt X en := by
  intro en hen
  have h1 := hd en hen
  have h2 := mq_all_mem hx en hen
  obtain ⟨pc, ins, nx, a, b, c, v⟩ := en
  dsimp only at h1
  cases ins
  case tableswitch d lo hi offs =>
    obtain ⟨g1, g2, g3⟩ := h2
    refine ⟨_, h1, fun x hx => ⟨mq_swok_out g3 (by omega), g1⟩, fun x k1 k2 => ?_⟩
    obtain ⟨off, e1, e2⟩ := mq_swok_in (a := a) (x := x) g3 (by omega) (by omega)
    exact ⟨off, by rw [← Array.getElem?_toList]; exact e1, e2⟩
  case lookupswitch d ps =>
    obtain ⟨g1, g2, g3⟩ := h2
    exact ⟨_, h1, g2, fun x => mq_lsok_at g1 g3⟩
  all_goals
    obtain ⟨g1, g2⟩ := h2
    refine ⟨⟨?_, g1⟩, g2⟩
    rw [g1, Nat.add_sub_cancel_left] at h1
    exact h1
end
section
-- ===== PART A: goes FIRST, ahead of the names: the tables' words, and 'selects' of the private methods out of them =====
/-- a private method of a class that the tables say can be made, by its rows of tables_1 -/
def lw_okq (q : MethodName × Nat) : Prop := (q.1.cls ≠ "java/lang/invoke/MethodHandle" ∧ q.1.cls ≠ "java/lang/invoke/VarHandle") ∧ Cond.instantiable q.1.cls q.2 ∈ tables_1 ∧ Cond.privateMethod q.1 ∈ tables_1 ∧ Cond.instanceMethod q.1 ∈ tables_1
theorem lw_p0 : lw_okq (⟨"PartitionKernel", "partitionAt", "(I)LPartitionKernel$Partition;"⟩, 8) := ⟨⟨by decide +kernel, by decide +kernel⟩, List.mem_of_getElem? (i := 18) (by decide +kernel), List.mem_of_getElem? (i := 260) (by decide +kernel), List.mem_of_getElem? (i := 261) (by decide +kernel)⟩
theorem lw_p1 : lw_okq (⟨"PartitionKernel", "processAt", "(II)LPartitionKernel$Proc;"⟩, 8) := ⟨⟨by decide +kernel, by decide +kernel⟩, List.mem_of_getElem? (i := 18) (by decide +kernel), List.mem_of_getElem? (i := 278) (by decide +kernel), List.mem_of_getElem? (i := 279) (by decide +kernel)⟩
theorem lw_p2 : lw_okq (⟨"PartitionKernel$Partition", "firstReadyNumber", "()I"⟩, 9) := ⟨⟨by decide +kernel, by decide +kernel⟩, List.mem_of_getElem? (i := 82) (by decide +kernel), List.mem_of_getElem? (i := 306) (by decide +kernel), List.mem_of_getElem? (i := 307) (by decide +kernel)⟩
theorem lw_p3 : lw_okq (⟨"PartitionKernel", "channelAt", "(I)LPartitionKernel$Channel;"⟩, 8) := ⟨⟨by decide +kernel, by decide +kernel⟩, List.mem_of_getElem? (i := 18) (by decide +kernel), List.mem_of_getElem? (i := 325) (by decide +kernel), List.mem_of_getElem? (i := 326) (by decide +kernel)⟩
theorem lw_p4 : lw_okq (⟨"PartitionKernel$Channel", "placeOf", "(I)I"⟩, 8) := ⟨⟨by decide +kernel, by decide +kernel⟩, List.mem_of_getElem? (i := 197) (by decide +kernel), List.mem_of_getElem? (i := 341) (by decide +kernel), List.mem_of_getElem? (i := 342) (by decide +kernel)⟩
theorem lw_p5 : lw_okq (⟨"java/lang/Throwable", "fillInStackTrace", "(I)Ljava/lang/Throwable;"⟩, 6) := ⟨⟨by decide +kernel, by decide +kernel⟩, List.mem_of_getElem? (i := 409) (by decide +kernel), List.mem_of_getElem? (i := 407) (by decide +kernel), List.mem_of_getElem? (i := 408) (by decide +kernel)⟩
theorem lw_p6 : lw_okq (⟨"PartitionKernel$Partition", "enter", "(LPartitionKernel$Proc;III)V"⟩, 9) := ⟨⟨by decide +kernel, by decide +kernel⟩, List.mem_of_getElem? (i := 82) (by decide +kernel), List.mem_of_getElem? (i := 555) (by decide +kernel), List.mem_of_getElem? (i := 556) (by decide +kernel)⟩
theorem lw_p7 : lw_okq (⟨"PartitionKernel", "tick", "(LPartitionKernel$Partition;)V"⟩, 8) := ⟨⟨by decide +kernel, by decide +kernel⟩, List.mem_of_getElem? (i := 18) (by decide +kernel), List.mem_of_getElem? (i := 568) (by decide +kernel), List.mem_of_getElem? (i := 569) (by decide +kernel)⟩
theorem lw_p8 : lw_okq (⟨"PartitionKernel$Partition", "firstSleeper", "(I)LPartitionKernel$Proc;"⟩, 9) := ⟨⟨by decide +kernel, by decide +kernel⟩, List.mem_of_getElem? (i := 82) (by decide +kernel), List.mem_of_getElem? (i := 576) (by decide +kernel), List.mem_of_getElem? (i := 577) (by decide +kernel)⟩
theorem lw_p9 : lw_okq (⟨"PartitionKernel", "dueErrorsEndTick", "(LPartitionKernel$Partition;)Z"⟩, 8) := ⟨⟨by decide +kernel, by decide +kernel⟩, List.mem_of_getElem? (i := 18) (by decide +kernel), List.mem_of_getElem? (i := 580) (by decide +kernel), List.mem_of_getElem? (i := 581) (by decide +kernel)⟩
theorem lw_p10 : lw_okq (⟨"PartitionKernel", "fails", "(LPartitionKernel$Partition;LPartitionKernel$Proc;I)Z"⟩, 8) := ⟨⟨by decide +kernel, by decide +kernel⟩, List.mem_of_getElem? (i := 18) (by decide +kernel), List.mem_of_getElem? (i := 588) (by decide +kernel), List.mem_of_getElem? (i := 589) (by decide +kernel)⟩
theorem lw_p11 : lw_okq (⟨"PartitionKernel", "serve", "(LPartitionKernel$Partition;LPartitionKernel$Proc;)I"⟩, 8) := ⟨⟨by decide +kernel, by decide +kernel⟩, List.mem_of_getElem? (i := 18) (by decide +kernel), List.mem_of_getElem? (i := 691) (by decide +kernel), List.mem_of_getElem? (i := 692) (by decide +kernel)⟩
theorem lw_p12 : lw_okq (⟨"PartitionKernel", "answer", "(ILPartitionKernel$Partition;LPartitionKernel$Proc;)I"⟩, 8) := ⟨⟨by decide +kernel, by decide +kernel⟩, List.mem_of_getElem? (i := 18) (by decide +kernel), List.mem_of_getElem? (i := 695) (by decide +kernel), List.mem_of_getElem? (i := 696) (by decide +kernel)⟩
theorem lw_p13 : lw_okq (⟨"PartitionKernel", "send", "(LPartitionKernel$Partition;II)I"⟩, 8) := ⟨⟨by decide +kernel, by decide +kernel⟩, List.mem_of_getElem? (i := 18) (by decide +kernel), List.mem_of_getElem? (i := 726) (by decide +kernel), List.mem_of_getElem? (i := 727) (by decide +kernel)⟩
theorem lw_p14 : lw_okq (⟨"PartitionKernel", "receive", "(LPartitionKernel$Partition;ILPartitionKernel$Proc;)I"⟩, 8) := ⟨⟨by decide +kernel, by decide +kernel⟩, List.mem_of_getElem? (i := 18) (by decide +kernel), List.mem_of_getElem? (i := 734) (by decide +kernel), List.mem_of_getElem? (i := 735) (by decide +kernel)⟩
theorem lw_p15 : lw_okq (⟨"PartitionKernelModel", "store", "(IIII)V"⟩, 44) := ⟨⟨by decide +kernel, by decide +kernel⟩, List.mem_of_getElem? (i := 747) (by decide +kernel), List.mem_of_getElem? (i := 918) (by decide +kernel), List.mem_of_getElem? (i := 919) (by decide +kernel)⟩
def lw_privs_1 : List (MethodName × Nat) := [(⟨"PartitionKernel", "partitionAt", "(I)LPartitionKernel$Partition;"⟩, 8), (⟨"PartitionKernel", "processAt", "(II)LPartitionKernel$Proc;"⟩, 8), (⟨"PartitionKernel$Partition", "firstReadyNumber", "()I"⟩, 9), (⟨"PartitionKernel", "channelAt", "(I)LPartitionKernel$Channel;"⟩, 8), (⟨"PartitionKernel$Channel", "placeOf", "(I)I"⟩, 8), (⟨"java/lang/Throwable", "fillInStackTrace", "(I)Ljava/lang/Throwable;"⟩, 6), (⟨"PartitionKernel$Partition", "enter", "(LPartitionKernel$Proc;III)V"⟩, 9), (⟨"PartitionKernel", "tick", "(LPartitionKernel$Partition;)V"⟩, 8), (⟨"PartitionKernel$Partition", "firstSleeper", "(I)LPartitionKernel$Proc;"⟩, 9), (⟨"PartitionKernel", "dueErrorsEndTick", "(LPartitionKernel$Partition;)Z"⟩, 8), (⟨"PartitionKernel", "fails", "(LPartitionKernel$Partition;LPartitionKernel$Proc;I)Z"⟩, 8), (⟨"PartitionKernel", "serve", "(LPartitionKernel$Partition;LPartitionKernel$Proc;)I"⟩, 8), (⟨"PartitionKernel", "answer", "(ILPartitionKernel$Partition;LPartitionKernel$Proc;)I"⟩, 8), (⟨"PartitionKernel", "send", "(LPartitionKernel$Partition;II)I"⟩, 8), (⟨"PartitionKernel", "receive", "(LPartitionKernel$Partition;ILPartitionKernel$Proc;)I"⟩, 8), (⟨"PartitionKernelModel", "store", "(IIII)V"⟩, 44)]
theorem lw_r1 : ∀ q ∈ lw_privs_1, lw_okq q := List.forall_mem_cons.mpr ⟨lw_p0, List.forall_mem_cons.mpr ⟨lw_p1, List.forall_mem_cons.mpr ⟨lw_p2, List.forall_mem_cons.mpr ⟨lw_p3, List.forall_mem_cons.mpr ⟨lw_p4, List.forall_mem_cons.mpr ⟨lw_p5, List.forall_mem_cons.mpr ⟨lw_p6, List.forall_mem_cons.mpr ⟨lw_p7, List.forall_mem_cons.mpr ⟨lw_p8, List.forall_mem_cons.mpr ⟨lw_p9, List.forall_mem_cons.mpr ⟨lw_p10, List.forall_mem_cons.mpr ⟨lw_p11, List.forall_mem_cons.mpr ⟨lw_p12, List.forall_mem_cons.mpr ⟨lw_p13, List.forall_mem_cons.mpr ⟨lw_p14, List.forall_mem_cons.mpr ⟨lw_p15, fun _ h => absurd h List.not_mem_nil⟩⟩⟩⟩⟩⟩⟩⟩⟩⟩⟩⟩⟩⟩⟩⟩
theorem lw_p16 : lw_okq (⟨"PartitionKernelModel", "start", "(I)V"⟩, 44) := ⟨⟨by decide +kernel, by decide +kernel⟩, List.mem_of_getElem? (i := 747) (by decide +kernel), List.mem_of_getElem? (i := 926) (by decide +kernel), List.mem_of_getElem? (i := 927) (by decide +kernel)⟩
theorem lw_p17 : lw_okq (⟨"PartitionKernelModel", "ready", "(I)V"⟩, 44) := ⟨⟨by decide +kernel, by decide +kernel⟩, List.mem_of_getElem? (i := 747) (by decide +kernel), List.mem_of_getElem? (i := 930) (by decide +kernel), List.mem_of_getElem? (i := 931) (by decide +kernel)⟩
theorem lw_p18 : lw_okq (⟨"PartitionKernelModel", "tick", "()I"⟩, 44) := ⟨⟨by decide +kernel, by decide +kernel⟩, List.mem_of_getElem? (i := 747) (by decide +kernel), List.mem_of_getElem? (i := 938) (by decide +kernel), List.mem_of_getElem? (i := 939) (by decide +kernel)⟩
theorem lw_p19 : lw_okq (⟨"PartitionKernelModel", "windowNow", "()I"⟩, 44) := ⟨⟨by decide +kernel, by decide +kernel⟩, List.mem_of_getElem? (i := 747) (by decide +kernel), List.mem_of_getElem? (i := 942) (by decide +kernel), List.mem_of_getElem? (i := 943) (by decide +kernel)⟩
theorem lw_p20 : lw_okq (⟨"PartitionKernelModel", "wake", "(I)V"⟩, 44) := ⟨⟨by decide +kernel, by decide +kernel⟩, List.mem_of_getElem? (i := 747) (by decide +kernel), List.mem_of_getElem? (i := 946) (by decide +kernel), List.mem_of_getElem? (i := 947) (by decide +kernel)⟩
theorem lw_p21 : lw_okq (⟨"PartitionKernelModel", "isLate", "(I)Z"⟩, 44) := ⟨⟨by decide +kernel, by decide +kernel⟩, List.mem_of_getElem? (i := 747) (by decide +kernel), List.mem_of_getElem? (i := 950) (by decide +kernel), List.mem_of_getElem? (i := 951) (by decide +kernel)⟩
theorem lw_p22 : lw_okq (⟨"PartitionKernelModel", "fails", "(III)Z"⟩, 44) := ⟨⟨by decide +kernel, by decide +kernel⟩, List.mem_of_getElem? (i := 747) (by decide +kernel), List.mem_of_getElem? (i := 954) (by decide +kernel), List.mem_of_getElem? (i := 955) (by decide +kernel)⟩
theorem lw_p23 : lw_okq (⟨"PartitionKernelModel", "sleep", "(I)V"⟩, 44) := ⟨⟨by decide +kernel, by decide +kernel⟩, List.mem_of_getElem? (i := 747) (by decide +kernel), List.mem_of_getElem? (i := 958) (by decide +kernel), List.mem_of_getElem? (i := 959) (by decide +kernel)⟩
theorem lw_p24 : lw_okq (⟨"PartitionKernelModel", "restart", "(I)V"⟩, 44) := ⟨⟨by decide +kernel, by decide +kernel⟩, List.mem_of_getElem? (i := 747) (by decide +kernel), List.mem_of_getElem? (i := 962) (by decide +kernel), List.mem_of_getElem? (i := 963) (by decide +kernel)⟩
theorem lw_p25 : lw_okq (⟨"PartitionKernelModel", "first", "(I)I"⟩, 44) := ⟨⟨by decide +kernel, by decide +kernel⟩, List.mem_of_getElem? (i := 747) (by decide +kernel), List.mem_of_getElem? (i := 966) (by decide +kernel), List.mem_of_getElem? (i := 967) (by decide +kernel)⟩
theorem lw_p26 : lw_okq (⟨"PartitionKernelModel", "load", "(III)I"⟩, 44) := ⟨⟨by decide +kernel, by decide +kernel⟩, List.mem_of_getElem? (i := 747) (by decide +kernel), List.mem_of_getElem? (i := 970) (by decide +kernel), List.mem_of_getElem? (i := 971) (by decide +kernel)⟩
theorem lw_p27 : lw_okq (⟨"PartitionKernelModel", "instruct", "(II)I"⟩, 44) := ⟨⟨by decide +kernel, by decide +kernel⟩, List.mem_of_getElem? (i := 747) (by decide +kernel), List.mem_of_getElem? (i := 974) (by decide +kernel), List.mem_of_getElem? (i := 975) (by decide +kernel)⟩
theorem lw_p28 : lw_okq (⟨"PartitionKernelModel", "give", "(I)I"⟩, 44) := ⟨⟨by decide +kernel, by decide +kernel⟩, List.mem_of_getElem? (i := 747) (by decide +kernel), List.mem_of_getElem? (i := 981) (by decide +kernel), List.mem_of_getElem? (i := 982) (by decide +kernel)⟩
theorem lw_p29 : lw_okq (⟨"PartitionKernelModel", "jump", "(III)I"⟩, 44) := ⟨⟨by decide +kernel, by decide +kernel⟩, List.mem_of_getElem? (i := 747) (by decide +kernel), List.mem_of_getElem? (i := 985) (by decide +kernel), List.mem_of_getElem? (i := 986) (by decide +kernel)⟩
theorem lw_p30 : lw_okq (⟨"PartitionKernelModel", "loaded", "(III)I"⟩, 44) := ⟨⟨by decide +kernel, by decide +kernel⟩, List.mem_of_getElem? (i := 747) (by decide +kernel), List.mem_of_getElem? (i := 996) (by decide +kernel), List.mem_of_getElem? (i := 997) (by decide +kernel)⟩
theorem lw_p31 : lw_okq (⟨"PartitionKernelModel", "stored", "(IIII)I"⟩, 44) := ⟨⟨by decide +kernel, by decide +kernel⟩, List.mem_of_getElem? (i := 747) (by decide +kernel), List.mem_of_getElem? (i := 1000) (by decide +kernel), List.mem_of_getElem? (i := 1001) (by decide +kernel)⟩
def lw_privs_2 : List (MethodName × Nat) := [(⟨"PartitionKernelModel", "start", "(I)V"⟩, 44), (⟨"PartitionKernelModel", "ready", "(I)V"⟩, 44), (⟨"PartitionKernelModel", "tick", "()I"⟩, 44), (⟨"PartitionKernelModel", "windowNow", "()I"⟩, 44), (⟨"PartitionKernelModel", "wake", "(I)V"⟩, 44), (⟨"PartitionKernelModel", "isLate", "(I)Z"⟩, 44), (⟨"PartitionKernelModel", "fails", "(III)Z"⟩, 44), (⟨"PartitionKernelModel", "sleep", "(I)V"⟩, 44), (⟨"PartitionKernelModel", "restart", "(I)V"⟩, 44), (⟨"PartitionKernelModel", "first", "(I)I"⟩, 44), (⟨"PartitionKernelModel", "load", "(III)I"⟩, 44), (⟨"PartitionKernelModel", "instruct", "(II)I"⟩, 44), (⟨"PartitionKernelModel", "give", "(I)I"⟩, 44), (⟨"PartitionKernelModel", "jump", "(III)I"⟩, 44), (⟨"PartitionKernelModel", "loaded", "(III)I"⟩, 44), (⟨"PartitionKernelModel", "stored", "(IIII)I"⟩, 44)]
theorem lw_r2 : ∀ q ∈ lw_privs_2, lw_okq q := List.forall_mem_cons.mpr ⟨lw_p16, List.forall_mem_cons.mpr ⟨lw_p17, List.forall_mem_cons.mpr ⟨lw_p18, List.forall_mem_cons.mpr ⟨lw_p19, List.forall_mem_cons.mpr ⟨lw_p20, List.forall_mem_cons.mpr ⟨lw_p21, List.forall_mem_cons.mpr ⟨lw_p22, List.forall_mem_cons.mpr ⟨lw_p23, List.forall_mem_cons.mpr ⟨lw_p24, List.forall_mem_cons.mpr ⟨lw_p25, List.forall_mem_cons.mpr ⟨lw_p26, List.forall_mem_cons.mpr ⟨lw_p27, List.forall_mem_cons.mpr ⟨lw_p28, List.forall_mem_cons.mpr ⟨lw_p29, List.forall_mem_cons.mpr ⟨lw_p30, List.forall_mem_cons.mpr ⟨lw_p31, fun _ h => absurd h List.not_mem_nil⟩⟩⟩⟩⟩⟩⟩⟩⟩⟩⟩⟩⟩⟩⟩⟩
theorem lw_p32 : lw_okq (⟨"PartitionKernelModel", "reckon", "(III)I"⟩, 44) := ⟨⟨by decide +kernel, by decide +kernel⟩, List.mem_of_getElem? (i := 747) (by decide +kernel), List.mem_of_getElem? (i := 1004) (by decide +kernel), List.mem_of_getElem? (i := 1005) (by decide +kernel)⟩
theorem lw_p33 : lw_okq (⟨"PartitionKernelModel", "call", "(II)I"⟩, 44) := ⟨⟨by decide +kernel, by decide +kernel⟩, List.mem_of_getElem? (i := 747) (by decide +kernel), List.mem_of_getElem? (i := 1011) (by decide +kernel), List.mem_of_getElem? (i := 1012) (by decide +kernel)⟩
theorem lw_p34 : lw_okq (⟨"PartitionKernelModel", "periodic", "(I)I"⟩, 44) := ⟨⟨by decide +kernel, by decide +kernel⟩, List.mem_of_getElem? (i := 747) (by decide +kernel), List.mem_of_getElem? (i := 1015) (by decide +kernel), List.mem_of_getElem? (i := 1016) (by decide +kernel)⟩
theorem lw_p35 : lw_okq (⟨"PartitionKernelModel", "timed", "(II)V"⟩, 44) := ⟨⟨by decide +kernel, by decide +kernel⟩, List.mem_of_getElem? (i := 747) (by decide +kernel), List.mem_of_getElem? (i := 1019) (by decide +kernel), List.mem_of_getElem? (i := 1020) (by decide +kernel)⟩
theorem lw_p36 : lw_okq (⟨"PartitionKernelModel", "sleepFor", "(II)I"⟩, 44) := ⟨⟨by decide +kernel, by decide +kernel⟩, List.mem_of_getElem? (i := 747) (by decide +kernel), List.mem_of_getElem? (i := 1023) (by decide +kernel), List.mem_of_getElem? (i := 1024) (by decide +kernel)⟩
theorem lw_p37 : lw_okq (⟨"PartitionKernelModel", "startOther", "(II)I"⟩, 44) := ⟨⟨by decide +kernel, by decide +kernel⟩, List.mem_of_getElem? (i := 747) (by decide +kernel), List.mem_of_getElem? (i := 1027) (by decide +kernel), List.mem_of_getElem? (i := 1028) (by decide +kernel)⟩
theorem lw_p38 : lw_okq (⟨"PartitionKernelModel", "rank", "(III)I"⟩, 44) := ⟨⟨by decide +kernel, by decide +kernel⟩, List.mem_of_getElem? (i := 747) (by decide +kernel), List.mem_of_getElem? (i := 1031) (by decide +kernel), List.mem_of_getElem? (i := 1032) (by decide +kernel)⟩
theorem lw_p39 : lw_okq (⟨"PartitionKernelModel", "take", "(III)I"⟩, 44) := ⟨⟨by decide +kernel, by decide +kernel⟩, List.mem_of_getElem? (i := 747) (by decide +kernel), List.mem_of_getElem? (i := 1035) (by decide +kernel), List.mem_of_getElem? (i := 1036) (by decide +kernel)⟩
theorem lw_p40 : lw_okq (⟨"PartitionKernelModel", "release", "(II)I"⟩, 44) := ⟨⟨by decide +kernel, by decide +kernel⟩, List.mem_of_getElem? (i := 747) (by decide +kernel), List.mem_of_getElem? (i := 1039) (by decide +kernel), List.mem_of_getElem? (i := 1040) (by decide +kernel)⟩
theorem lw_p41 : lw_okq (⟨"PartitionKernelModel", "send", "(III)I"⟩, 44) := ⟨⟨by decide +kernel, by decide +kernel⟩, List.mem_of_getElem? (i := 747) (by decide +kernel), List.mem_of_getElem? (i := 1043) (by decide +kernel), List.mem_of_getElem? (i := 1044) (by decide +kernel)⟩
theorem lw_p42 : lw_okq (⟨"PartitionKernelModel", "receive", "(III)I"⟩, 44) := ⟨⟨by decide +kernel, by decide +kernel⟩, List.mem_of_getElem? (i := 747) (by decide +kernel), List.mem_of_getElem? (i := 1047) (by decide +kernel), List.mem_of_getElem? (i := 1048) (by decide +kernel)⟩
theorem lw_p43 : lw_okq (⟨"PartitionKernelModel", "isProcess", "(II)Z"⟩, 44) := ⟨⟨by decide +kernel, by decide +kernel⟩, List.mem_of_getElem? (i := 747) (by decide +kernel), List.mem_of_getElem? (i := 1059) (by decide +kernel), List.mem_of_getElem? (i := 1060) (by decide +kernel)⟩
def lw_privs_3 : List (MethodName × Nat) := [(⟨"PartitionKernelModel", "reckon", "(III)I"⟩, 44), (⟨"PartitionKernelModel", "call", "(II)I"⟩, 44), (⟨"PartitionKernelModel", "periodic", "(I)I"⟩, 44), (⟨"PartitionKernelModel", "timed", "(II)V"⟩, 44), (⟨"PartitionKernelModel", "sleepFor", "(II)I"⟩, 44), (⟨"PartitionKernelModel", "startOther", "(II)I"⟩, 44), (⟨"PartitionKernelModel", "rank", "(III)I"⟩, 44), (⟨"PartitionKernelModel", "take", "(III)I"⟩, 44), (⟨"PartitionKernelModel", "release", "(II)I"⟩, 44), (⟨"PartitionKernelModel", "send", "(III)I"⟩, 44), (⟨"PartitionKernelModel", "receive", "(III)I"⟩, 44), (⟨"PartitionKernelModel", "isProcess", "(II)Z"⟩, 44)]
theorem lw_r3 : ∀ q ∈ lw_privs_3, lw_okq q := List.forall_mem_cons.mpr ⟨lw_p32, List.forall_mem_cons.mpr ⟨lw_p33, List.forall_mem_cons.mpr ⟨lw_p34, List.forall_mem_cons.mpr ⟨lw_p35, List.forall_mem_cons.mpr ⟨lw_p36, List.forall_mem_cons.mpr ⟨lw_p37, List.forall_mem_cons.mpr ⟨lw_p38, List.forall_mem_cons.mpr ⟨lw_p39, List.forall_mem_cons.mpr ⟨lw_p40, List.forall_mem_cons.mpr ⟨lw_p41, List.forall_mem_cons.mpr ⟨lw_p42, List.forall_mem_cons.mpr ⟨lw_p43, fun _ h => absurd h List.not_mem_nil⟩⟩⟩⟩⟩⟩⟩⟩⟩⟩⟩⟩
def lw_privs : List (MethodName × Nat) := lw_privs_1 ++ (lw_privs_2 ++ (lw_privs_3))
def lw_tbl : List Cond := k2_sels lw_privs ++ tables_1
theorem lw_privs_ok : ∀ q ∈ lw_privs, lw_okq q := by
  show ∀ q ∈ lw_privs_1 ++ (lw_privs_2 ++ (lw_privs_3)), lw_okq q
  exact List.forall_mem_append.mpr ⟨lw_r1, List.forall_mem_append.mpr ⟨lw_r2, lw_r3⟩⟩
end
section
/-! The program as the machine has it: by program (wip/whole/tools/gen2.py) out of javap and the tables. Class fields, kinds, methods. -/
def pg_T0 : u_T := fun k => match k with
  | 0 => ("PartitionKernel$Channel", "words", "[I", true)
  | 1 => ("PartitionKernel$Channel", "queue", "Z", false)
  | 2 => ("PartitionKernel$Channel", "from", "I", false)
  | 3 => ("PartitionKernel$Channel", "to", "I", false)
  | 4 => ("PartitionKernel$Channel", "limit", "I", false)
  | 5 => ("PartitionKernel$Channel", "head", "I", false)
  | 6 => ("PartitionKernel$Channel", "count", "I", false)
  | _ => ("PartitionKernel$Channel", "sentAt", "I", false)
def pg_t0 : Nat → FieldType := fun k => match k with
  | 0 => .array .int
  | 1 => .boolean
  | 2 => .int
  | 3 => .int
  | 4 => .int
  | 5 => .int
  | 6 => .int
  | _ => .int
def pg_T1 : u_T := fun k => match k with
  | 0 => ("PartitionKernel$ErrorLog", "times", "[I", true)
  | 1 => ("PartitionKernel$ErrorLog", "partitions", "[I", true)
  | 2 => ("PartitionKernel$ErrorLog", "processes", "[I", true)
  | 3 => ("PartitionKernel$ErrorLog", "kinds", "[I", true)
  | 4 => ("PartitionKernel$ErrorLog", "total", "I", false)
  | 5 => ("PartitionKernel$ErrorLog", "kept", "I", false)
  | _ => ("PartitionKernel$ErrorLog", "next", "I", false)
def pg_t1 : Nat → FieldType := fun k => match k with
  | 0 => .array .int
  | 1 => .array .int
  | 2 => .array .int
  | 3 => .array .int
  | 4 => .int
  | 5 => .int
  | _ => .int
def pg_T2 : u_T := fun k => match k with
  | 0 => ("PartitionKernel$Frame", "owners", "[I", true)
  | 1 => ("PartitionKernel$Frame", "lengths", "[I", true)
  | 2 => ("PartitionKernel$Frame", "count", "I", false)
  | 3 => ("PartitionKernel$Frame", "current", "I", false)
  | _ => ("PartitionKernel$Frame", "spent", "I", false)
def pg_t2 : Nat → FieldType := fun k => match k with
  | 0 => .array .int
  | 1 => .array .int
  | 2 => .int
  | 3 => .int
  | _ => .int
def pg_T3 : u_T := fun k => match k with
  | _ => ("PartitionKernel$Memory", "words", "[I", true)
def pg_t3 : Nat → FieldType := fun k => match k with
  | _ => .array .int
def pg_T4 : u_T := fun k => match k with
  | 0 => ("PartitionKernel$Partition", "number", "I", true)
  | 1 => ("PartitionKernel$Partition", "memory", "LPartitionKernel$Memory;", true)
  | 2 => ("PartitionKernel$Partition", "processes", "[LPartitionKernel$Proc;", true)
  | 3 => ("PartitionKernel$Partition", "semaphores", "[I", true)
  | 4 => ("PartitionKernel$Partition", "actions", "[I", true)
  | 5 => ("PartitionKernel$Partition", "count", "I", false)
  | 6 => ("PartitionKernel$Partition", "nextOrder", "I", false)
  | 7 => ("PartitionKernel$Partition", "restarts", "I", false)
  | _ => ("PartitionKernel$Partition", "stopped", "Z", false)
def pg_t4 : Nat → FieldType := fun k => match k with
  | 0 => .int
  | 1 => .object "PartitionKernel$Memory"
  | 2 => .array (.object "PartitionKernel$Proc")
  | 3 => .array .int
  | 4 => .array .int
  | 5 => .int
  | 6 => .int
  | 7 => .int
  | _ => .boolean
def pg_T5 : u_T := fun k => match k with
  | 0 => ("PartitionKernel$Proc", "number", "I", true)
  | 1 => ("PartitionKernel$Proc", "registers", "[I", true)
  | 2 => ("PartitionKernel$Proc", "entry", "I", false)
  | 3 => ("PartitionKernel$Proc", "priority", "I", false)
  | 4 => ("PartitionKernel$Proc", "period", "I", false)
  | 5 => ("PartitionKernel$Proc", "deadline", "I", false)
  | 6 => ("PartitionKernel$Proc", "pc", "I", false)
  | 7 => ("PartitionKernel$Proc", "state", "I", false)
  | 8 => ("PartitionKernel$Proc", "due", "I", false)
  | 9 => ("PartitionKernel$Proc", "release", "I", false)
  | 10 => ("PartitionKernel$Proc", "waitTime", "I", false)
  | 11 => ("PartitionKernel$Proc", "semaphore", "I", false)
  | 12 => ("PartitionKernel$Proc", "order", "I", false)
  | _ => ("PartitionKernel$Proc", "done", "I", false)
def pg_t5 : Nat → FieldType := fun k => match k with
  | 0 => .int
  | 1 => .array .int
  | 2 => .int
  | 3 => .int
  | 4 => .int
  | 5 => .int
  | 6 => .int
  | 7 => .int
  | 8 => .int
  | 9 => .int
  | 10 => .int
  | 11 => .int
  | 12 => .int
  | _ => .int
def pg_T6 : u_T := fun k => match k with
  | 0 => ("PartitionKernel", "partitions", "[LPartitionKernel$Partition;", true)
  | 1 => ("PartitionKernel", "channels", "[LPartitionKernel$Channel;", true)
  | 2 => ("PartitionKernel", "frame", "LPartitionKernel$Frame;", true)
  | 3 => ("PartitionKernel", "log", "LPartitionKernel$ErrorLog;", true)
  | 4 => ("PartitionKernel", "channelCount", "I", false)
  | 5 => ("PartitionKernel", "time", "I", false)
  | 6 => ("PartitionKernel", "instructions", "I", false)
  | _ => ("PartitionKernel", "begun", "Z", false)
def pg_t6 : Nat → FieldType := fun k => match k with
  | 0 => .array (.object "PartitionKernel$Partition")
  | 1 => .array (.object "PartitionKernel$Channel")
  | 2 => .object "PartitionKernel$Frame"
  | 3 => .object "PartitionKernel$ErrorLog"
  | 4 => .int
  | 5 => .int
  | 6 => .int
  | _ => .boolean
def pg_T7 : u_T := fun k => match k with
  | 0 => ("PartitionKernelModel", "thrown", "I", false)
  | 1 => ("PartitionKernelModel", "begun", "Z", false)
  | 2 => ("PartitionKernelModel", "time", "I", false)
  | 3 => ("PartitionKernelModel", "windows", "I", false)
  | 4 => ("PartitionKernelModel", "frame", "I", false)
  | 5 => ("PartitionKernelModel", "done", "I", false)
  | 6 => ("PartitionKernelModel", "windowOf", "[I", true)
  | 7 => ("PartitionKernelModel", "ticks", "[I", true)
  | 8 => ("PartitionKernelModel", "memory", "[B", true)
  | 9 => ("PartitionKernelModel", "actions", "[I", true)
  | 10 => ("PartitionKernelModel", "semaphores", "[I", true)
  | 11 => ("PartitionKernelModel", "processes", "[I", true)
  | 12 => ("PartitionKernelModel", "again", "[I", true)
  | 13 => ("PartitionKernelModel", "stopped", "[Z", true)
  | 14 => ("PartitionKernelModel", "entry", "[I", true)
  | 15 => ("PartitionKernelModel", "priority", "[I", true)
  | 16 => ("PartitionKernelModel", "period", "[I", true)
  | 17 => ("PartitionKernelModel", "deadline", "[I", true)
  | 18 => ("PartitionKernelModel", "pc", "[I", true)
  | 19 => ("PartitionKernelModel", "state", "[I", true)
  | 20 => ("PartitionKernelModel", "due", "[I", true)
  | 21 => ("PartitionKernelModel", "wait", "[I", true)
  | 22 => ("PartitionKernelModel", "semaphore", "[I", true)
  | 23 => ("PartitionKernelModel", "turn", "[I", true)
  | 24 => ("PartitionKernelModel", "did", "[I", true)
  | 25 => ("PartitionKernelModel", "release", "[I", true)
  | 26 => ("PartitionKernelModel", "registers", "[I", true)
  | 27 => ("PartitionKernelModel", "turns", "I", false)
  | 28 => ("PartitionKernelModel", "channels", "I", false)
  | 29 => ("PartitionKernelModel", "queue", "[Z", true)
  | 30 => ("PartitionKernelModel", "from", "[I", true)
  | 31 => ("PartitionKernelModel", "to", "[I", true)
  | 32 => ("PartitionKernelModel", "limit", "[I", true)
  | 33 => ("PartitionKernelModel", "length", "[I", true)
  | 34 => ("PartitionKernelModel", "sent", "[I", true)
  | 35 => ("PartitionKernelModel", "words", "[I", true)
  | 36 => ("PartitionKernelModel", "errors", "I", false)
  | 37 => ("PartitionKernelModel", "errorTime", "[I", true)
  | 38 => ("PartitionKernelModel", "errorPart", "[I", true)
  | 39 => ("PartitionKernelModel", "errorProcess", "[I", true)
  | 40 => ("PartitionKernelModel", "errorKind", "[I", true)
  | 41 => ("PartitionKernelModel", "next", "I", false)
  | 42 => ("PartitionKernelModel", "answer", "I", false)
  | _ => ("PartitionKernelModel", "sets", "Z", false)
def pg_t7 : Nat → FieldType := fun k => match k with
  | 0 => .int
  | 1 => .boolean
  | 2 => .int
  | 3 => .int
  | 4 => .int
  | 5 => .int
  | 6 => .array .int
  | 7 => .array .int
  | 8 => .array .byte
  | 9 => .array .int
  | 10 => .array .int
  | 11 => .array .int
  | 12 => .array .int
  | 13 => .array .boolean
  | 14 => .array .int
  | 15 => .array .int
  | 16 => .array .int
  | 17 => .array .int
  | 18 => .array .int
  | 19 => .array .int
  | 20 => .array .int
  | 21 => .array .int
  | 22 => .array .int
  | 23 => .array .int
  | 24 => .array .int
  | 25 => .array .int
  | 26 => .array .int
  | 27 => .int
  | 28 => .int
  | 29 => .array .boolean
  | 30 => .array .int
  | 31 => .array .int
  | 32 => .array .int
  | 33 => .array .int
  | 34 => .array .int
  | 35 => .array .int
  | 36 => .int
  | 37 => .array .int
  | 38 => .array .int
  | 39 => .array .int
  | 40 => .array .int
  | 41 => .int
  | 42 => .int
  | _ => .boolean
def pg_cl : List vw_C := [("PartitionKernel$Channel", pg_T0, 8), ("PartitionKernel$ErrorLog", pg_T1, 7), ("PartitionKernel$Frame", pg_T2, 5), ("PartitionKernel$Memory", pg_T3, 1), ("PartitionKernel$Partition", pg_T4, 9), ("PartitionKernel$Proc", pg_T5, 14), ("PartitionKernel", pg_T6, 8), ("PartitionKernelModel", pg_T7, 44)]
def pg_ki : Nat → Nat × Nat × Nat := fun k => match k with
  | 0 => (0, 0, 8)
  | 1 => (0, 1, 7)
  | 2 => (0, 2, 5)
  | 3 => (0, 3, 1)
  | 4 => (0, 4, 9)
  | 5 => (0, 5, 14)
  | 6 => (0, 6, 8)
  | 7 => (0, 7, 44)
  | 10 => (1, 0, 4)
  | 11 => (1, 0, 8)
  | 12 => (1, 0, 16)
  | 13 => (1, 0, 32)
  | 14 => (1, 0, 64)
  | 15 => (1, 0, 256)
  | 16 => (1, 0, 1024)
  | 30 => (4, 0, 4096)
  | 31 => (5, 0, 4)
  | 32 => (5, 0, 8)
  | 40 => (2, 0, 1)
  | 20 => (3, 4, 4)
  | 21 => (3, 0, 8)
  | 22 => (3, 5, 8)
  | 50 => (8, 50, 6)
  | 51 => (8, 51, 6)
  | 52 => (8, 52, 6)
  | 999 => (9, 0, 0)
  | _ => (7, 0, 0)
def pg_fr : Nat → Nat → Bool := fun k j => match k, j with
  | 0, 0 => true
  | 1, 0 => true
  | 1, 1 => true
  | 1, 2 => true
  | 1, 3 => true
  | 2, 0 => true
  | 2, 1 => true
  | 3, 0 => true
  | 4, 1 => true
  | 4, 2 => true
  | 4, 3 => true
  | 4, 4 => true
  | 5, 1 => true
  | 6, 0 => true
  | 6, 1 => true
  | 6, 2 => true
  | 6, 3 => true
  | 7, 6 => true
  | 7, 7 => true
  | 7, 8 => true
  | 7, 9 => true
  | 7, 10 => true
  | 7, 11 => true
  | 7, 12 => true
  | 7, 13 => true
  | 7, 14 => true
  | 7, 15 => true
  | 7, 16 => true
  | 7, 17 => true
  | 7, 18 => true
  | 7, 19 => true
  | 7, 20 => true
  | 7, 21 => true
  | 7, 22 => true
  | 7, 23 => true
  | 7, 24 => true
  | 7, 25 => true
  | 7, 26 => true
  | 7, 29 => true
  | 7, 30 => true
  | 7, 31 => true
  | 7, 32 => true
  | 7, 33 => true
  | 7, 34 => true
  | 7, 35 => true
  | 7, 37 => true
  | 7, 38 => true
  | 7, 39 => true
  | 7, 40 => true
  | _, _ => false
def pg_ms : List (MethodName × ByteArray × Nat × Option FieldType) := [
  (⟨"java/lang/Math", "min", "(II)I"⟩, prog_15_method_69_code, 2, some .int),
  (⟨"PartitionKernel$Channel", "<init>", "()V"⟩, prog_2_method_1_code, 1, none),
  (⟨"PartitionKernel$Channel", "open", "(ZIII)V"⟩, prog_2_method_2_code, 5, none),
  (⟨"PartitionKernel$Channel", "put", "(II)I"⟩, prog_2_method_3_code, 3, some .int),
  (⟨"PartitionKernel$Channel", "taken", "(I)I"⟩, prog_2_method_4_code, 2, some .int),
  (⟨"PartitionKernel$Channel", "wordAt", "(I)I"⟩, prog_2_method_5_code, 2, some .int),
  (⟨"PartitionKernel$Channel", "tell", "(I)I"⟩, prog_2_method_6_code, 2, some .int),
  (⟨"PartitionKernel$Channel", "placeOf", "(I)I"⟩, prog_2_method_7_code, 2, some .int),
  (⟨"PartitionKernel$ErrorLog", "<init>", "()V"⟩, prog_3_method_1_code, 1, none),
  (⟨"PartitionKernel$ErrorLog", "note", "(IIII)V"⟩, prog_3_method_2_code, 5, none),
  (⟨"PartitionKernel$ErrorLog", "tell", "(II)I"⟩, prog_3_method_3_code, 4, some .int),
  (⟨"PartitionKernel$Frame", "<init>", "()V"⟩, prog_4_method_1_code, 1, none),
  (⟨"PartitionKernel$Frame", "add", "(II)Z"⟩, prog_4_method_2_code, 3, some .boolean),
  (⟨"PartitionKernel$Frame", "owner", "()I"⟩, prog_4_method_3_code, 1, some .int),
  (⟨"PartitionKernel$Frame", "advance", "()V"⟩, prog_4_method_4_code, 1, none),
  (⟨"PartitionKernel$Memory", "<init>", "()V"⟩, prog_6_method_1_code, 1, none),
  (⟨"PartitionKernel$Memory", "holds", "(II)Z"⟩, prog_6_method_2_code, 2, some .boolean),
  (⟨"PartitionKernel$Memory", "readWord", "(I)I"⟩, prog_6_method_3_code, 2, some .int),
  (⟨"PartitionKernel$Memory", "writeWord", "(II)V"⟩, prog_6_method_4_code, 3, none),
  (⟨"PartitionKernel$Memory", "readFrom", "(I)I"⟩, prog_6_method_5_code, 2, some .int),
  (⟨"PartitionKernel$Memory", "write", "(III)V"⟩, prog_6_method_6_code, 7, none),
  (⟨"PartitionKernel$Memory", "shiftOf", "(I)I"⟩, prog_6_method_7_code, 1, some .int),
  (⟨"PartitionKernel$Partition", "<init>", "(I)V"⟩, prog_7_method_1_code, 3, none),
  (⟨"PartitionKernel$Partition", "add", "(IIII)I"⟩, prog_7_method_2_code, 6, some .int),
  (⟨"PartitionKernel$Partition", "find", "(I)LPartitionKernel$Proc;"⟩, prog_7_method_3_code, 2, some (.object "PartitionKernel$Proc")),
  (⟨"PartitionKernel$Partition", "actionFor", "(I)I"⟩, prog_7_method_4_code, 2, some .int),
  (⟨"PartitionKernel$Partition", "tell", "(I)I"⟩, prog_7_method_5_code, 2, some .int),
  (⟨"PartitionKernel$Partition", "start", "(LPartitionKernel$Proc;I)V"⟩, prog_7_method_6_code, 3, none),
  (⟨"PartitionKernel$Partition", "startAll", "(I)V"⟩, prog_7_method_7_code, 3, none),
  (⟨"PartitionKernel$Partition", "rest", "(LPartitionKernel$Proc;)V"⟩, prog_7_method_8_code, 2, none),
  (⟨"PartitionKernel$Partition", "wake", "(I)V"⟩, prog_7_method_9_code, 4, none),
  (⟨"PartitionKernel$Partition", "first", "(II)LPartitionKernel$Proc;"⟩, prog_7_method_10_code, 6, some (.object "PartitionKernel$Proc")),
  (⟨"PartitionKernel$Partition", "awaitRelease", "(LPartitionKernel$Proc;)I"⟩, prog_7_method_11_code, 2, some .int),
  (⟨"PartitionKernel$Partition", "awaitSpan", "(LPartitionKernel$Proc;II)I"⟩, prog_7_method_12_code, 4, some .int),
  (⟨"PartitionKernel$Partition", "startDormant", "(II)I"⟩, prog_7_method_13_code, 4, some .int),
  (⟨"PartitionKernel$Partition", "setPriority", "(II)I"⟩, prog_7_method_14_code, 4, some .int),
  (⟨"PartitionKernel$Partition", "takeSemaphore", "(LPartitionKernel$Proc;I)I"⟩, prog_7_method_15_code, 3, some .int),
  (⟨"PartitionKernel$Partition", "giveSemaphore", "(I)I"⟩, prog_7_method_16_code, 3, some .int),
  (⟨"PartitionKernel$Partition", "firstReadyNumber", "()I"⟩, prog_7_method_17_code, 2, some .int),
  (⟨"PartitionKernel$Partition", "isSemaphore", "(I)Z"⟩, prog_7_method_18_code, 1, some .boolean),
  (⟨"PartitionKernel$Partition", "firstSleeper", "(I)LPartitionKernel$Proc;"⟩, prog_7_method_19_code, 6, some (.object "PartitionKernel$Proc")),
  (⟨"PartitionKernel$Partition", "enter", "(LPartitionKernel$Proc;III)V"⟩, prog_7_method_20_code, 5, none),
  (⟨"PartitionKernel$Proc", "<init>", "(I)V"⟩, prog_8_method_1_code, 2, none),
  (⟨"PartitionKernel$Proc", "get", "(I)I"⟩, prog_8_method_2_code, 2, some .int),
  (⟨"PartitionKernel$Proc", "set", "(II)V"⟩, prog_8_method_3_code, 3, none),
  (⟨"PartitionKernel$Proc", "reset", "()V"⟩, prog_8_method_4_code, 2, none),
  (⟨"PartitionKernel$Proc", "releaseAt", "(I)V"⟩, prog_8_method_5_code, 2, none),
  (⟨"PartitionKernel$Proc", "isLate", "(I)Z"⟩, prog_8_method_6_code, 2, some .boolean),
  (⟨"PartitionKernel$Proc", "leads", "(LPartitionKernel$Proc;)Z"⟩, prog_8_method_7_code, 2, some .boolean),
  (⟨"PartitionKernel$Proc", "tell", "(I)I"⟩, prog_8_method_8_code, 2, some .int),
  (⟨"PartitionKernel$Machine", "step", "(LPartitionKernel$Proc;LPartitionKernel$Memory;)I"⟩, prog_5_method_2_code, 3, some .int),
  (⟨"PartitionKernel$Machine", "finish", "(LPartitionKernel$Proc;III)I"⟩, prog_5_method_3_code, 4, some .int),
  (⟨"PartitionKernel$Machine", "jumpToRegister", "(LPartitionKernel$Proc;I)I"⟩, prog_5_method_4_code, 2, some .int),
  (⟨"PartitionKernel$Machine", "branch", "(LPartitionKernel$Proc;I)I"⟩, prog_5_method_5_code, 5, some .int),
  (⟨"PartitionKernel$Machine", "load", "(LPartitionKernel$Proc;ILPartitionKernel$Memory;)I"⟩, prog_5_method_6_code, 5, some .int),
  (⟨"PartitionKernel$Machine", "widened", "(II)I"⟩, prog_5_method_7_code, 2, some .int),
  (⟨"PartitionKernel$Machine", "store", "(LPartitionKernel$Proc;ILPartitionKernel$Memory;)I"⟩, prog_5_method_8_code, 5, some .int),
  (⟨"PartitionKernel$Machine", "reckonWithImmediate", "(LPartitionKernel$Proc;I)I"⟩, prog_5_method_9_code, 5, some .int),
  (⟨"PartitionKernel$Machine", "reckonWithRegister", "(LPartitionKernel$Proc;I)I"⟩, prog_5_method_10_code, 4, some .int),
  (⟨"PartitionKernel$Machine", "reckon", "(IZII)I"⟩, prog_5_method_11_code, 4, some .int),
  (⟨"PartitionKernel$Machine", "isBelow", "(II)Z"⟩, prog_5_method_12_code, 2, some .boolean),
  (⟨"PartitionKernel$Machine", "f3", "(I)I"⟩, prog_5_method_13_code, 1, some .int),
  (⟨"PartitionKernel$Machine", "f7", "(I)I"⟩, prog_5_method_14_code, 1, some .int),
  (⟨"PartitionKernel$Machine", "left", "(LPartitionKernel$Proc;I)I"⟩, prog_5_method_15_code, 2, some .int),
  (⟨"PartitionKernel$Machine", "right", "(LPartitionKernel$Proc;I)I"⟩, prog_5_method_16_code, 2, some .int),
  (⟨"PartitionKernel$Machine", "immediate", "(I)I"⟩, prog_5_method_17_code, 1, some .int),
  (⟨"PartitionKernel$Machine", "upper", "(I)I"⟩, prog_5_method_18_code, 1, some .int),
  (⟨"PartitionKernel$Machine", "storeOffset", "(I)I"⟩, prog_5_method_19_code, 1, some .int),
  (⟨"PartitionKernel$Machine", "jumpOffset", "(I)I"⟩, prog_5_method_20_code, 1, some .int),
  (⟨"PartitionKernel$Machine", "branchOffset", "(I)I"⟩, prog_5_method_21_code, 1, some .int),
  (⟨"PartitionKernel", "<init>", "()V"⟩, prog_1_method_1_code, 2, none),
  (⟨"PartitionKernel", "window", "(II)V"⟩, prog_1_method_2_code, 3, none),
  (⟨"PartitionKernel", "process", "(IIIII)I"⟩, prog_1_method_3_code, 8, some .int),
  (⟨"PartitionKernel", "channel", "(ZIII)I"⟩, prog_1_method_4_code, 5, some .int),
  (⟨"PartitionKernel", "action", "(III)V"⟩, prog_1_method_5_code, 5, none),
  (⟨"PartitionKernel", "poke", "(III)V"⟩, prog_1_method_6_code, 5, none),
  (⟨"PartitionKernel", "begin", "()V"⟩, prog_1_method_7_code, 2, none),
  (⟨"PartitionKernel", "run", "(I)I"⟩, prog_1_method_8_code, 5, some .int),
  (⟨"PartitionKernel", "peek", "(II)I"⟩, prog_1_method_9_code, 4, some .int),
  (⟨"PartitionKernel", "register", "(III)I"⟩, prog_1_method_10_code, 5, some .int),
  (⟨"PartitionKernel", "state", "(III)I"⟩, prog_1_method_11_code, 5, some .int),
  (⟨"PartitionKernel", "partition", "(II)I"⟩, prog_1_method_12_code, 4, some .int),
  (⟨"PartitionKernel", "traffic", "(II)I"⟩, prog_1_method_13_code, 4, some .int),
  (⟨"PartitionKernel", "word", "(II)I"⟩, prog_1_method_14_code, 4, some .int),
  (⟨"PartitionKernel", "error", "(II)I"⟩, prog_1_method_15_code, 3, some .int),
  (⟨"PartitionKernel", "about", "(I)I"⟩, prog_1_method_16_code, 2, some .int),
  (⟨"PartitionKernel", "isPartition", "(I)Z"⟩, prog_1_method_17_code, 1, some .boolean),
  (⟨"PartitionKernel", "isPriority", "(I)Z"⟩, prog_1_method_18_code, 1, some .boolean),
  (⟨"PartitionKernel", "isSpan", "(I)Z"⟩, prog_1_method_19_code, 1, some .boolean),
  (⟨"PartitionKernel", "partitionAt", "(I)LPartitionKernel$Partition;"⟩, prog_1_method_20_code, 2, some (.object "PartitionKernel$Partition")),
  (⟨"PartitionKernel", "processAt", "(II)LPartitionKernel$Proc;"⟩, prog_1_method_21_code, 4, some (.object "PartitionKernel$Proc")),
  (⟨"PartitionKernel", "channelAt", "(I)LPartitionKernel$Channel;"⟩, prog_1_method_22_code, 2, some (.object "PartitionKernel$Channel")),
  (⟨"PartitionKernel", "tick", "(LPartitionKernel$Partition;)V"⟩, prog_1_method_23_code, 4, none),
  (⟨"PartitionKernel", "dueErrorsEndTick", "(LPartitionKernel$Partition;)Z"⟩, prog_1_method_24_code, 4, some .boolean),
  (⟨"PartitionKernel", "fails", "(LPartitionKernel$Partition;LPartitionKernel$Proc;I)Z"⟩, prog_1_method_25_code, 4, some .boolean),
  (⟨"PartitionKernel", "serve", "(LPartitionKernel$Partition;LPartitionKernel$Proc;)I"⟩, prog_1_method_26_code, 4, some .int),
  (⟨"PartitionKernel", "answer", "(ILPartitionKernel$Partition;LPartitionKernel$Proc;)I"⟩, prog_1_method_27_code, 6, some .int),
  (⟨"PartitionKernel", "send", "(LPartitionKernel$Partition;II)I"⟩, prog_1_method_28_code, 5, some .int),
  (⟨"PartitionKernel", "receive", "(LPartitionKernel$Partition;ILPartitionKernel$Proc;)I"⟩, prog_1_method_29_code, 5, some .int),
  (⟨"PartitionKernelModel", "<init>", "()V"⟩, prog_10_method_1_code, 2, none),
  (⟨"PartitionKernelModel", "thrown", "()I"⟩, prog_10_method_2_code, 1, some .int),
  (⟨"PartitionKernelModel", "in", "(II)Z"⟩, prog_10_method_3_code, 2, some .boolean),
  (⟨"PartitionKernelModel", "ready", "(I)V"⟩, prog_10_method_4_code, 2, none),
  (⟨"PartitionKernelModel", "start", "(I)V"⟩, prog_10_method_5_code, 3, none),
  (⟨"PartitionKernelModel", "sleep", "(I)V"⟩, prog_10_method_6_code, 2, none),
  (⟨"PartitionKernelModel", "restart", "(I)V"⟩, prog_10_method_7_code, 3, none),
  (⟨"PartitionKernelModel", "fails", "(III)Z"⟩, prog_10_method_8_code, 6, some .boolean),
  (⟨"PartitionKernelModel", "isPlace", "(II)Z"⟩, prog_10_method_9_code, 2, some .boolean),
  (⟨"PartitionKernelModel", "load", "(III)I"⟩, prog_10_method_10_code, 6, some .int),
  (⟨"PartitionKernelModel", "store", "(IIII)V"⟩, prog_10_method_11_code, 6, none),
  (⟨"PartitionKernelModel", "bits", "(III)I"⟩, prog_10_method_12_code, 3, some .int),
  (⟨"PartitionKernelModel", "isBelow", "(II)Z"⟩, prog_10_method_13_code, 2, some .boolean),
  (⟨"PartitionKernelModel", "give", "(I)I"⟩, prog_10_method_14_code, 2, some .int),
  (⟨"PartitionKernelModel", "loaded", "(III)I"⟩, prog_10_method_15_code, 6, some .int),
  (⟨"PartitionKernelModel", "stored", "(IIII)I"⟩, prog_10_method_16_code, 5, some .int),
  (⟨"PartitionKernelModel", "holds", "(III)Z"⟩, prog_10_method_17_code, 3, some .boolean),
  (⟨"PartitionKernelModel", "made", "(IIIZ)I"⟩, prog_10_method_18_code, 4, some .int),
  (⟨"PartitionKernelModel", "jump", "(III)I"⟩, prog_10_method_19_code, 7, some .int),
  (⟨"PartitionKernelModel", "reckon", "(III)I"⟩, prog_10_method_20_code, 6, some .int),
  (⟨"PartitionKernelModel", "instruct", "(II)I"⟩, prog_10_method_21_code, 6, some .int),
  (⟨"PartitionKernelModel", "timed", "(II)V"⟩, prog_10_method_23_code, 3, none),
  (⟨"PartitionKernelModel", "periodic", "(I)I"⟩, prog_10_method_24_code, 2, some .int),
  (⟨"PartitionKernelModel", "sleepFor", "(II)I"⟩, prog_10_method_25_code, 3, some .int),
  (⟨"PartitionKernelModel", "startOther", "(II)I"⟩, prog_10_method_26_code, 3, some .int),
  (⟨"PartitionKernelModel", "rank", "(III)I"⟩, prog_10_method_27_code, 4, some .int),
  (⟨"PartitionKernelModel", "take", "(III)I"⟩, prog_10_method_28_code, 4, some .int),
  (⟨"PartitionKernelModel", "release", "(II)I"⟩, prog_10_method_29_code, 6, some .int),
  (⟨"PartitionKernelModel", "send", "(III)I"⟩, prog_10_method_30_code, 4, some .int),
  (⟨"PartitionKernelModel", "receive", "(III)I"⟩, prog_10_method_31_code, 5, some .int),
  (⟨"PartitionKernelModel", "call", "(II)I"⟩, prog_10_method_32_code, 7, some .int),
  (⟨"PartitionKernelModel", "windowNow", "()I"⟩, prog_10_method_33_code, 3, some .int),
  (⟨"PartitionKernelModel", "wake", "(I)V"⟩, prog_10_method_34_code, 6, none),
  (⟨"PartitionKernelModel", "isLate", "(I)Z"⟩, prog_10_method_35_code, 4, some .boolean),
  (⟨"PartitionKernelModel", "first", "(I)I"⟩, prog_10_method_36_code, 5, some .int),
  (⟨"PartitionKernelModel", "tick", "()I"⟩, prog_10_method_37_code, 6, some .int),
  (⟨"PartitionKernelModel", "window", "(II)V"⟩, prog_10_method_38_code, 3, none),
  (⟨"PartitionKernelModel", "process", "(IIIII)I"⟩, prog_10_method_39_code, 8, some .int),
  (⟨"PartitionKernelModel", "channel", "(ZIII)I"⟩, prog_10_method_40_code, 5, some .int),
  (⟨"PartitionKernelModel", "action", "(III)V"⟩, prog_10_method_41_code, 4, none),
  (⟨"PartitionKernelModel", "poke", "(III)V"⟩, prog_10_method_42_code, 4, none),
  (⟨"PartitionKernelModel", "begin", "()V"⟩, prog_10_method_43_code, 3, none),
  (⟨"PartitionKernelModel", "run", "(I)I"⟩, prog_10_method_44_code, 4, some .int),
  (⟨"PartitionKernelModel", "peek", "(II)I"⟩, prog_10_method_45_code, 3, some .int),
  (⟨"PartitionKernelModel", "isProcess", "(II)Z"⟩, prog_10_method_46_code, 3, some .boolean),
  (⟨"PartitionKernelModel", "register", "(III)I"⟩, prog_10_method_47_code, 4, some .int),
  (⟨"PartitionKernelModel", "state", "(III)I"⟩, prog_10_method_48_code, 5, some .int),
  (⟨"PartitionKernelModel", "partition", "(II)I"⟩, prog_10_method_49_code, 5, some .int),
  (⟨"PartitionKernelModel", "traffic", "(II)I"⟩, prog_10_method_50_code, 3, some .int),
  (⟨"PartitionKernelModel", "word", "(II)I"⟩, prog_10_method_51_code, 3, some .int),
  (⟨"PartitionKernelModel", "error", "(II)I"⟩, prog_10_method_52_code, 4, some .int),
  (⟨"PartitionKernelModel", "about", "(I)I"⟩, prog_10_method_53_code, 2, some .int),
  (⟨"PartitionKernelLaw", "window", "(LPartitionKernel;II)I"⟩, method_3_code, 4, some .int),
  (⟨"PartitionKernelLaw", "process", "(LPartitionKernel;IIIII[J)I"⟩, method_4_code, 8, some .int),
  (⟨"PartitionKernelLaw", "channel", "(LPartitionKernel;ZIII[J)I"⟩, method_5_code, 7, some .int),
  (⟨"PartitionKernelLaw", "action", "(LPartitionKernel;III)I"⟩, method_6_code, 5, some .int),
  (⟨"PartitionKernelLaw", "poke", "(LPartitionKernel;III)I"⟩, method_7_code, 5, some .int),
  (⟨"PartitionKernelLaw", "begin", "(LPartitionKernel;)I"⟩, method_8_code, 2, some .int),
  (⟨"PartitionKernelLaw", "run", "(LPartitionKernel;I[J)I"⟩, method_9_code, 4, some .int)]
def pg_m (k : Nat) : MethodName × ByteArray × Nat × Option FieldType := pg_ms.getD k (⟨"", "", ""⟩, ⟨#[]⟩, 0, none)
def pg_G : List Cond := lw_tbl.filter goodWord
def pg_Z : mCe := (fun k => (pg_m k).1, fun k => (pg_m k).2.1, fun k => (pg_m k).2.2.1, fun k => (pg_m k).2.2.2, pg_G)
def pg_mx : Nat → Nat × Nat × Nat := fun k => match k with
  | 1 => (1, 8, 0)
  | 8 => (4, 256, 1)
  | 9 => (0, 0, 1)
  | 10 => (0, 0, 1)
  | 11 => (2, 16, 2)
  | 12 => (0, 0, 2)
  | 13 => (0, 0, 2)
  | 14 => (0, 0, 2)
  | 15 => (1, 256, 3)
  | 16 => (0, 0, 3)
  | 17 => (0, 0, 3)
  | 18 => (0, 0, 3)
  | 19 => (0, 0, 3)
  | 20 => (0, 0, 3)
  | 21 => (0, 0, 3)
  | 22 => (21, 641, 4)
  | 23 => (0, 0, 4)
  | 24 => (0, 0, 4)
  | 25 => (0, 0, 4)
  | 26 => (0, 0, 4)
  | 27 => (0, 0, 4)
  | 28 => (0, 0, 4)
  | 29 => (0, 0, 4)
  | 30 => (0, 0, 4)
  | 31 => (0, 0, 4)
  | 32 => (0, 0, 4)
  | 33 => (0, 0, 4)
  | 34 => (0, 0, 4)
  | 35 => (0, 0, 4)
  | 36 => (0, 0, 4)
  | 37 => (0, 0, 4)
  | 38 => (0, 0, 4)
  | 39 => (0, 0, 4)
  | 40 => (0, 0, 4)
  | 41 => (0, 0, 4)
  | 42 => (1, 32, 5)
  | 43 => (0, 0, 5)
  | 44 => (0, 0, 5)
  | 45 => (0, 0, 5)
  | 46 => (0, 0, 5)
  | 47 => (0, 0, 5)
  | 48 => (0, 0, 5)
  | 49 => (0, 0, 5)
  | 70 => (114, 3024, 6)
  | 71 => (1, 6, 6)
  | 72 => (1, 6, 6)
  | 73 => (1, 6, 6)
  | 74 => (1, 6, 6)
  | 75 => (1, 6, 6)
  | 76 => (1, 6, 6)
  | 77 => (1, 6, 6)
  | 78 => (0, 0, 6)
  | 79 => (0, 0, 6)
  | 80 => (0, 0, 6)
  | 81 => (0, 0, 6)
  | 82 => (0, 0, 6)
  | 83 => (0, 0, 6)
  | 84 => (0, 0, 6)
  | 85 => (0, 0, 6)
  | 86 => (0, 0, 6)
  | 87 => (0, 0, 6)
  | 88 => (0, 0, 6)
  | 89 => (0, 0, 6)
  | 90 => (0, 0, 6)
  | 91 => (0, 0, 6)
  | 92 => (0, 0, 6)
  | 93 => (0, 0, 6)
  | 94 => (0, 0, 6)
  | 95 => (0, 0, 6)
  | 96 => (0, 0, 6)
  | 97 => (0, 0, 6)
  | 98 => (0, 0, 6)
  | 99 => (32, 5932, 7)
  | 100 => (0, 0, 7)
  | 101 => (0, 0, 7)
  | 102 => (0, 0, 7)
  | 103 => (0, 0, 7)
  | 104 => (0, 0, 7)
  | 105 => (0, 0, 7)
  | 106 => (0, 0, 7)
  | 107 => (0, 0, 7)
  | 108 => (0, 0, 7)
  | 109 => (0, 0, 7)
  | 110 => (0, 0, 7)
  | 111 => (0, 0, 7)
  | 112 => (0, 0, 7)
  | 113 => (0, 0, 7)
  | 114 => (0, 0, 7)
  | 115 => (0, 0, 7)
  | 116 => (0, 0, 7)
  | 117 => (0, 0, 7)
  | 118 => (0, 0, 7)
  | 119 => (0, 0, 7)
  | 120 => (0, 0, 7)
  | 121 => (0, 0, 7)
  | 122 => (0, 0, 7)
  | 123 => (0, 0, 7)
  | 124 => (0, 0, 7)
  | 125 => (0, 0, 7)
  | 126 => (0, 0, 7)
  | 127 => (0, 0, 7)
  | 128 => (0, 0, 7)
  | 129 => (0, 0, 7)
  | 130 => (0, 0, 7)
  | 131 => (0, 0, 7)
  | 132 => (0, 0, 7)
  | 133 => (0, 0, 7)
  | 134 => (0, 0, 7)
  | 135 => (0, 0, 7)
  | 136 => (0, 0, 7)
  | 137 => (0, 0, 7)
  | 138 => (0, 0, 7)
  | 139 => (0, 0, 7)
  | 140 => (0, 0, 7)
  | 141 => (0, 0, 7)
  | 142 => (0, 0, 7)
  | 143 => (0, 0, 7)
  | 144 => (0, 0, 7)
  | 145 => (0, 0, 7)
  | 146 => (0, 0, 7)
  | 147 => (0, 0, 7)
  | 148 => (0, 0, 7)
  | 149 => (0, 0, 7)
  | 150 => (0, 0, 7)
  | 151 => (1, 6, 0)
  | 152 => (1, 6, 0)
  | 153 => (1, 6, 0)
  | 154 => (1, 6, 0)
  | 155 => (1, 6, 0)
  | 156 => (1, 6, 0)
  | 157 => (1, 6, 0)
  | _ => (0, 0, 0)
def pg_sw : Nat → List (Int32 × Nat) := fun k => match k with
  | 0 => [(0, 28), (1, 33)]
  | 1 => [(0, 60), (1, 67), (2, 74), (3, 81)]
  | 2 => [(0, 32), (1, 45), (2, 50), (3, 55)]
  | 3 => [(0, 48), (1, 53), (2, 58), (3, 63), (4, 68), (5, 73), (6, 78), (7, 83)]
  | 4 => [(3, 186), (19, 200), (23, 132), (35, 193), (51, 206), (55, 116), (99, 180), (103, 174), (111, 153), (115, 212)]
  | 5 => [(0, 64), (1, 79), (2, 152), (3, 152), (4, 94), (5, 109), (6, 124), (7, 134)]
  | 6 => [(0, 40), (1, 43), (2, 57), (3, 57), (4, 46), (5, 52)]
  | 7 => [(0, 44), (1, 58), (2, 62), (3, 73), (4, 87), (5, 91), (6, 105)]
  | 8 => [(0, 32), (1, 37), (2, 45), (3, 50)]
  | 9 => [(1, 56), (2, 63), (3, 74), (4, 94)]
  | 10 => [(1, 64), (2, 70), (3, 82), (4, 93), (5, 102), (6, 107), (7, 115), (8, 122)]
  | 11 => [(0, 104), (1, 122), (2, 130), (3, 138)]
  | 12 => [(0, 44), (1, 55), (2, 94), (3, 94), (4, 66), (5, 77), (6, 88)]
  | 13 => [(0, 44), (1, 58), (2, 65), (3, 76), (4, 90), (5, 94), (6, 114)]
  | 14 => [(3, 212), (19, 264), (23, 186), (35, 232), (51, 264), (55, 176), (99, 203), (103, 203), (111, 203), (115, 274)]
  | 15 => [(0, 72), (1, 80), (2, 88), (3, 96), (4, 104), (5, 112), (6, 120), (7, 128)]
  | _ => []
def cd_0 : List mEn := [(0, .iload_n 0, 1, 0, 0, 0, 0), (1, .iload_n 1, 2, 0, 0, 0, 0), (2, .if_icmp .gt 7, 5, 9, 0, 0, 0), (5, .iload_n 0, 6, 0, 0, 0, 0), (6, .goto 4, 9, 10, 0, 0, 0), (9, .iload_n 1, 10, 0, 0, 0, 0), (10, .ireturn, 11, 0, 0, 0, 0)]
def cd_1 : List mEn := [(0, .aload_n 0, 1, 0, 0, 0, 0), (1, .invokespecial 3, 4, 0, 1, 0, 0), (4, .aload_n 0, 5, 0, 0, 0, 0), (5, .bipush 8, 7, 0, 0, 0, 8), (7, .newarray .int, 9, 11, 0, 0, 0), (9, .putfield 9, 12, 0, 0, 1, 0), (12, .aload_n 0, 13, 0, 0, 0, 0), (13, .iconst (-1), 14, 0, 0, 0, -1), (14, .putfield 15, 17, 0, 7, 0, 0), (17, .return_, 18, 0, 0, 0, 0)]
def cd_2 : List mEn := [(0, .aload_n 0, 1, 0, 0, 0, 0), (1, .iload_n 1, 2, 0, 0, 0, 0), (2, .putfield 19, 5, 0, 1, 2, 0), (5, .aload_n 0, 6, 0, 0, 0, 0), (6, .iload_n 2, 7, 0, 0, 0, 0), (7, .putfield 23, 10, 0, 2, 0, 0), (10, .aload_n 0, 11, 0, 0, 0, 0), (11, .iload_n 3, 12, 0, 0, 0, 0), (12, .putfield 26, 15, 0, 3, 0, 0), (15, .aload_n 0, 16, 0, 0, 0, 0), (16, .iload 4, 18, 0, 0, 0, 0), (18, .putfield 29, 21, 0, 4, 0, 0), (21, .return_, 22, 0, 0, 0, 0)]
def cd_3 : List mEn := [(0, .aload_n 0, 1, 0, 0, 0, 0), (1, .getfield 19, 4, 0, 1, 2, 0), (4, .ifCond .ne 22, 7, 26, 0, 0, 0), (7, .aload_n 0, 8, 0, 0, 0, 0), (8, .getfield 9, 11, 0, 0, 1, 0), (11, .iconst 0, 12, 0, 0, 0, 0), (12, .iload_n 1, 13, 0, 0, 0, 0), (13, .iastore, 14, 0, 0, 0, 0), (14, .aload_n 0, 15, 0, 0, 0, 0), (15, .iconst 1, 16, 0, 0, 0, 1), (16, .putfield 32, 19, 0, 6, 0, 0), (19, .aload_n 0, 20, 0, 0, 0, 0), (20, .iload_n 2, 21, 0, 0, 0, 0), (21, .putfield 15, 24, 0, 7, 0, 0), (24, .iconst 0, 25, 0, 0, 0, 0), (25, .ireturn, 26, 0, 0, 0, 0), (26, .aload_n 0, 27, 0, 0, 0, 0), (27, .getfield 32, 30, 0, 6, 0, 0), (30, .aload_n 0, 31, 0, 0, 0, 0), (31, .getfield 29, 34, 0, 4, 0, 0), (34, .if_icmp .lt 5, 37, 39, 0, 0, 0), (37, .iconst 2, 38, 0, 0, 0, 2), (38, .ireturn, 39, 0, 0, 0, 0), (39, .aload_n 0, 40, 0, 0, 0, 0), (40, .getfield 9, 43, 0, 0, 1, 0), (43, .aload_n 0, 44, 0, 0, 0, 0), (44, .aload_n 0, 45, 0, 0, 0, 0), (45, .getfield 32, 48, 0, 6, 0, 0), (48, .invokevirtual 35, 51, 7, 2, 0, 0), (51, .iload_n 1, 52, 0, 0, 0, 0), (52, .iastore, 53, 0, 0, 0, 0), (53, .aload_n 0, 54, 0, 0, 0, 0), (54, .dup, 55, 0, 0, 0, 0), (55, .getfield 32, 58, 0, 6, 0, 0), (58, .iconst 1, 59, 0, 0, 0, 1), (59, .iadd, 60, 0, 0, 0, 0), (60, .putfield 32, 63, 0, 6, 0, 0), (63, .iconst 0, 64, 0, 0, 0, 0), (64, .ireturn, 65, 0, 0, 0, 0)]
def cd_4 : List mEn := [(0, .aload_n 0, 1, 0, 0, 0, 0), (1, .getfield 19, 4, 0, 1, 2, 0), (4, .ifCond .ne 22, 7, 26, 0, 0, 0), (7, .iload_n 1, 8, 0, 0, 0, 0), (8, .aload_n 0, 9, 0, 0, 0, 0), (9, .getfield 15, 12, 0, 7, 0, 0), (12, .isub, 13, 0, 0, 0, 0), (13, .aload_n 0, 14, 0, 0, 0, 0), (14, .getfield 29, 17, 0, 4, 0, 0), (17, .if_icmp .gt 7, 20, 24, 0, 0, 0), (20, .iconst 0, 21, 0, 0, 0, 0), (21, .goto 4, 24, 25, 0, 0, 0), (24, .iconst 3, 25, 0, 0, 0, 3), (25, .ireturn, 26, 0, 0, 0, 0), (26, .aload_n 0, 27, 0, 0, 0, 0), (27, .aload_n 0, 28, 0, 0, 0, 0), (28, .iconst 1, 29, 0, 0, 0, 1), (29, .invokevirtual 35, 32, 7, 2, 0, 0), (32, .putfield 39, 35, 0, 5, 0, 0), (35, .aload_n 0, 36, 0, 0, 0, 0), (36, .dup, 37, 0, 0, 0, 0), (37, .getfield 32, 40, 0, 6, 0, 0), (40, .iconst 1, 41, 0, 0, 0, 1), (41, .isub, 42, 0, 0, 0, 0), (42, .putfield 32, 45, 0, 6, 0, 0), (45, .iconst 0, 46, 0, 0, 0, 0), (46, .ireturn, 47, 0, 0, 0, 0)]
def cd_5 : List mEn := [(0, .iload_n 1, 1, 0, 0, 0, 0), (1, .ifCond .lt 24, 4, 25, 0, 0, 0), (4, .iload_n 1, 5, 0, 0, 0, 0), (5, .aload_n 0, 6, 0, 0, 0, 0), (6, .getfield 32, 9, 0, 6, 0, 0), (9, .if_icmp .ge 16, 12, 25, 0, 0, 0), (12, .aload_n 0, 13, 0, 0, 0, 0), (13, .getfield 9, 16, 0, 0, 1, 0), (16, .aload_n 0, 17, 0, 0, 0, 0), (17, .iload_n 1, 18, 0, 0, 0, 0), (18, .invokevirtual 35, 21, 7, 2, 0, 0), (21, .iaload, 22, 0, 0, 0, 0), (22, .goto 4, 25, 26, 0, 0, 0), (25, .iconst 0, 26, 0, 0, 0, 0), (26, .ireturn, 27, 0, 0, 0, 0)]
def cd_6 : List mEn := [(0, .iload_n 1, 1, 0, 0, 0, 0), (1, .lookupswitch 37 #[(0, 27), (1, 32)], 28, 38, 0, 0, 0), (28, .aload_n 0, 29, 0, 0, 0, 0), (29, .getfield 32, 32, 0, 6, 0, 0), (32, .ireturn, 33, 0, 0, 0, 0), (33, .aload_n 0, 34, 0, 0, 0, 0), (34, .getfield 15, 37, 0, 7, 0, 0), (37, .ireturn, 38, 0, 0, 0, 0), (38, .iconst (-1), 39, 0, 0, 0, -1), (39, .ireturn, 40, 0, 0, 0, 0)]
def cd_7 : List mEn := [(0, .aload_n 0, 1, 0, 0, 0, 0), (1, .getfield 39, 4, 0, 5, 0, 0), (4, .iload_n 1, 5, 0, 0, 0, 0), (5, .iadd, 6, 0, 0, 0, 0), (6, .bipush 7, 8, 0, 0, 0, 7), (8, .iand, 9, 0, 0, 0, 0), (9, .ireturn, 10, 0, 0, 0, 0)]
def cd_8 : List mEn := [(0, .aload_n 0, 1, 0, 0, 0, 0), (1, .invokespecial 3, 4, 0, 1, 0, 0), (4, .aload_n 0, 5, 0, 0, 0, 0), (5, .bipush 64, 7, 0, 0, 0, 64), (7, .newarray .int, 9, 14, 0, 0, 0), (9, .putfield 9, 12, 1, 0, 1, 0), (12, .aload_n 0, 13, 0, 0, 0, 0), (13, .bipush 64, 15, 0, 0, 0, 64), (15, .newarray .int, 17, 14, 0, 0, 0), (17, .putfield 15, 20, 1, 1, 1, 0), (20, .aload_n 0, 21, 0, 0, 0, 0), (21, .bipush 64, 23, 0, 0, 0, 64), (23, .newarray .int, 25, 14, 0, 0, 0), (25, .putfield 18, 28, 1, 2, 1, 0), (28, .aload_n 0, 29, 0, 0, 0, 0), (29, .bipush 64, 31, 0, 0, 0, 64), (31, .newarray .int, 33, 14, 0, 0, 0), (33, .putfield 21, 36, 1, 3, 1, 0), (36, .return_, 37, 0, 0, 0, 0)]
def cd_9 : List mEn := [(0, .aload_n 0, 1, 0, 0, 0, 0), (1, .getfield 9, 4, 1, 0, 1, 0), (4, .aload_n 0, 5, 0, 0, 0, 0), (5, .getfield 24, 8, 1, 6, 0, 0), (8, .iload_n 1, 9, 0, 0, 0, 0), (9, .iastore, 10, 0, 0, 0, 0), (10, .aload_n 0, 11, 0, 0, 0, 0), (11, .getfield 15, 14, 1, 1, 1, 0), (14, .aload_n 0, 15, 0, 0, 0, 0), (15, .getfield 24, 18, 1, 6, 0, 0), (18, .iload_n 2, 19, 0, 0, 0, 0), (19, .iastore, 20, 0, 0, 0, 0), (20, .aload_n 0, 21, 0, 0, 0, 0), (21, .getfield 18, 24, 1, 2, 1, 0), (24, .aload_n 0, 25, 0, 0, 0, 0), (25, .getfield 24, 28, 1, 6, 0, 0), (28, .iload_n 3, 29, 0, 0, 0, 0), (29, .iastore, 30, 0, 0, 0, 0), (30, .aload_n 0, 31, 0, 0, 0, 0), (31, .getfield 21, 34, 1, 3, 1, 0), (34, .aload_n 0, 35, 0, 0, 0, 0), (35, .getfield 24, 38, 1, 6, 0, 0), (38, .iload 4, 40, 0, 0, 0, 0), (40, .iastore, 41, 0, 0, 0, 0), (41, .aload_n 0, 42, 0, 0, 0, 0), (42, .aload_n 0, 43, 0, 0, 0, 0), (43, .getfield 24, 46, 1, 6, 0, 0), (46, .iconst 1, 47, 0, 0, 0, 1), (47, .iadd, 48, 0, 0, 0, 0), (48, .bipush 64, 50, 0, 0, 0, 64), (50, .if_icmp .ge 12, 53, 62, 0, 0, 0), (53, .aload_n 0, 54, 0, 0, 0, 0), (54, .getfield 24, 57, 1, 6, 0, 0), (57, .iconst 1, 58, 0, 0, 0, 1), (58, .iadd, 59, 0, 0, 0, 0), (59, .goto 4, 62, 63, 0, 0, 0), (62, .iconst 0, 63, 0, 0, 0, 0), (63, .putfield 24, 66, 1, 6, 0, 0), (66, .aload_n 0, 67, 0, 0, 0, 0), (67, .aload_n 0, 68, 0, 0, 0, 0), (68, .getfield 28, 71, 1, 5, 0, 0), (71, .iconst 1, 72, 0, 0, 0, 1), (72, .iadd, 73, 0, 0, 0, 0), (73, .bipush 64, 75, 0, 0, 0, 64), (75, .invokestatic 31, 78, 0, 2, 7, 0), (78, .putfield 28, 81, 1, 5, 0, 0), (81, .aload_n 0, 82, 0, 0, 0, 0), (82, .dup, 83, 0, 0, 0, 0), (83, .getfield 37, 86, 1, 4, 0, 0), (86, .iconst 1, 87, 0, 0, 0, 1), (87, .iadd, 88, 0, 0, 0, 0), (88, .putfield 37, 91, 1, 4, 0, 0), (91, .return_, 92, 0, 0, 0, 0)]
def cd_10 : List mEn := [(0, .iload_n 1, 1, 0, 0, 0, 0), (1, .ifCond .lt 11, 4, 12, 0, 0, 0), (4, .iload_n 1, 5, 0, 0, 0, 0), (5, .aload_n 0, 6, 0, 0, 0, 0), (6, .getfield 28, 9, 1, 5, 0, 0), (9, .if_icmp .lt 5, 12, 14, 0, 0, 0), (12, .iconst (-1), 13, 0, 0, 0, -1), (13, .ireturn, 14, 0, 0, 0, 0), (14, .aload_n 0, 15, 0, 0, 0, 0), (15, .getfield 24, 18, 1, 6, 0, 0), (18, .iconst 1, 19, 0, 0, 0, 1), (19, .isub, 20, 0, 0, 0, 0), (20, .iload_n 1, 21, 0, 0, 0, 0), (21, .isub, 22, 0, 0, 0, 0), (22, .istore_n 3, 23, 0, 0, 0, 0), (23, .iload_n 3, 24, 0, 0, 0, 0), (24, .ifCond .ge 6, 27, 30, 0, 0, 0), (27, .iinc 3 64, 30, 0, 0, 0, 64), (30, .iload_n 2, 31, 0, 0, 0, 0), (31, .tableswitch 57 0 3 #[29, 36, 43, 50], 60, 88, 1, 0, 0), (60, .aload_n 0, 61, 0, 0, 0, 0), (61, .getfield 9, 64, 1, 0, 1, 0), (64, .iload_n 3, 65, 0, 0, 0, 0), (65, .iaload, 66, 0, 0, 0, 0), (66, .ireturn, 67, 0, 0, 0, 0), (67, .aload_n 0, 68, 0, 0, 0, 0), (68, .getfield 15, 71, 1, 1, 1, 0), (71, .iload_n 3, 72, 0, 0, 0, 0), (72, .iaload, 73, 0, 0, 0, 0), (73, .ireturn, 74, 0, 0, 0, 0), (74, .aload_n 0, 75, 0, 0, 0, 0), (75, .getfield 18, 78, 1, 2, 1, 0), (78, .iload_n 3, 79, 0, 0, 0, 0), (79, .iaload, 80, 0, 0, 0, 0), (80, .ireturn, 81, 0, 0, 0, 0), (81, .aload_n 0, 82, 0, 0, 0, 0), (82, .getfield 21, 85, 1, 3, 1, 0), (85, .iload_n 3, 86, 0, 0, 0, 0), (86, .iaload, 87, 0, 0, 0, 0), (87, .ireturn, 88, 0, 0, 0, 0), (88, .iconst (-1), 89, 0, 0, 0, -1), (89, .ireturn, 90, 0, 0, 0, 0)]
def cd_11 : List mEn := [(0, .aload_n 0, 1, 0, 0, 0, 0), (1, .invokespecial 3, 4, 0, 1, 0, 0), (4, .aload_n 0, 5, 0, 0, 0, 0), (5, .bipush 8, 7, 0, 0, 0, 8), (7, .newarray .int, 9, 11, 0, 0, 0), (9, .putfield 9, 12, 2, 0, 1, 0), (12, .aload_n 0, 13, 0, 0, 0, 0), (13, .bipush 8, 15, 0, 0, 0, 8), (15, .newarray .int, 17, 11, 0, 0, 0), (17, .putfield 15, 20, 2, 1, 1, 0), (20, .return_, 21, 0, 0, 0, 0)]
def cd_12 : List mEn := [(0, .aload_n 0, 1, 0, 0, 0, 0), (1, .getfield 18, 4, 2, 2, 0, 0), (4, .bipush 8, 6, 0, 0, 0, 8), (6, .if_icmp .lt 5, 9, 11, 0, 0, 0), (9, .iconst 0, 10, 0, 0, 0, 0), (10, .ireturn, 11, 0, 0, 2, 0), (11, .aload_n 0, 12, 0, 0, 0, 0), (12, .getfield 9, 15, 2, 0, 1, 0), (15, .aload_n 0, 16, 0, 0, 0, 0), (16, .getfield 18, 19, 2, 2, 0, 0), (19, .iload_n 1, 20, 0, 0, 0, 0), (20, .iastore, 21, 0, 0, 0, 0), (21, .aload_n 0, 22, 0, 0, 0, 0), (22, .getfield 15, 25, 2, 1, 1, 0), (25, .aload_n 0, 26, 0, 0, 0, 0), (26, .getfield 18, 29, 2, 2, 0, 0), (29, .iload_n 2, 30, 0, 0, 0, 0), (30, .iastore, 31, 0, 0, 0, 0), (31, .aload_n 0, 32, 0, 0, 0, 0), (32, .dup, 33, 0, 0, 0, 0), (33, .getfield 18, 36, 2, 2, 0, 0), (36, .iconst 1, 37, 0, 0, 0, 1), (37, .iadd, 38, 0, 0, 0, 0), (38, .putfield 18, 41, 2, 2, 0, 0), (41, .iconst 1, 42, 0, 0, 0, 1), (42, .ireturn, 43, 0, 0, 2, 0)]
def cd_13 : List mEn := [(0, .aload_n 0, 1, 0, 0, 0, 0), (1, .getfield 22, 4, 2, 3, 0, 0), (4, .aload_n 0, 5, 0, 0, 0, 0), (5, .getfield 18, 8, 2, 2, 0, 0), (8, .if_icmp .ge 15, 11, 23, 0, 0, 0), (11, .aload_n 0, 12, 0, 0, 0, 0), (12, .getfield 9, 15, 2, 0, 1, 0), (15, .aload_n 0, 16, 0, 0, 0, 0), (16, .getfield 22, 19, 2, 3, 0, 0), (19, .iaload, 20, 0, 0, 0, 0), (20, .goto 4, 23, 24, 0, 0, 0), (23, .iconst (-1), 24, 0, 0, 0, -1), (24, .ireturn, 25, 0, 0, 0, 0)]
def cd_14 : List mEn := [(0, .aload_n 0, 1, 0, 0, 0, 0), (1, .getfield 22, 4, 2, 3, 0, 0), (4, .aload_n 0, 5, 0, 0, 0, 0), (5, .getfield 18, 8, 2, 2, 0, 0), (8, .if_icmp .lt 4, 11, 12, 0, 0, 0), (11, .return_, 12, 0, 0, 0, 0), (12, .aload_n 0, 13, 0, 0, 0, 0), (13, .dup, 14, 0, 0, 0, 0), (14, .getfield 25, 17, 2, 4, 0, 0), (17, .iconst 1, 18, 0, 0, 0, 1), (18, .iadd, 19, 0, 0, 0, 0), (19, .putfield 25, 22, 2, 4, 0, 0), (22, .aload_n 0, 23, 0, 0, 0, 0), (23, .getfield 25, 26, 2, 4, 0, 0), (26, .aload_n 0, 27, 0, 0, 0, 0), (27, .getfield 15, 30, 2, 1, 1, 0), (30, .aload_n 0, 31, 0, 0, 0, 0), (31, .getfield 22, 34, 2, 3, 0, 0), (34, .iaload, 35, 0, 0, 0, 0), (35, .if_icmp .lt 35, 38, 70, 0, 0, 0), (38, .aload_n 0, 39, 0, 0, 0, 0), (39, .iconst 0, 40, 0, 0, 0, 0), (40, .putfield 25, 43, 2, 4, 0, 0), (43, .aload_n 0, 44, 0, 0, 0, 0), (44, .aload_n 0, 45, 0, 0, 0, 0), (45, .getfield 22, 48, 2, 3, 0, 0), (48, .iconst 1, 49, 0, 0, 0, 1), (49, .iadd, 50, 0, 0, 0, 0), (50, .aload_n 0, 51, 0, 0, 0, 0), (51, .getfield 18, 54, 2, 2, 0, 0), (54, .if_icmp .ge 12, 57, 66, 0, 0, 0), (57, .aload_n 0, 58, 0, 0, 0, 0), (58, .getfield 22, 61, 2, 3, 0, 0), (61, .iconst 1, 62, 0, 0, 0, 1), (62, .iadd, 63, 0, 0, 0, 0), (63, .goto 4, 66, 67, 0, 0, 0), (66, .iconst 0, 67, 0, 0, 0, 0), (67, .putfield 22, 70, 2, 3, 0, 0), (70, .return_, 71, 0, 0, 0, 0)]
def cd_15 : List mEn := [(0, .aload_n 0, 1, 0, 0, 0, 0), (1, .invokespecial 3, 4, 0, 1, 0, 0), (4, .aload_n 0, 5, 0, 0, 0, 0), (5, .sipush 256, 8, 0, 0, 0, 256), (8, .newarray .int, 10, 15, 0, 0, 0), (10, .putfield 9, 13, 3, 0, 1, 0), (13, .return_, 14, 0, 0, 0, 0)]
def cd_16 : List mEn := [(0, .iload_n 0, 1, 0, 0, 0, 0), (1, .ifCond .lt 22, 4, 23, 0, 0, 0), (4, .iload_n 0, 5, 0, 0, 0, 0), (5, .sipush 1024, 8, 0, 0, 0, 1024), (8, .if_icmp .ge 15, 11, 23, 0, 0, 0), (11, .iload_n 0, 12, 0, 0, 0, 0), (12, .iload_n 1, 13, 0, 0, 0, 0), (13, .iconst 1, 14, 0, 0, 0, 1), (14, .isub, 15, 0, 0, 0, 0), (15, .iand, 16, 0, 0, 0, 0), (16, .ifCond .ne 7, 19, 23, 0, 0, 0), (19, .iconst 1, 20, 0, 0, 0, 1), (20, .goto 4, 23, 24, 0, 0, 0), (23, .iconst 0, 24, 0, 0, 0, 0), (24, .ireturn, 25, 0, 0, 2, 0)]
def cd_17 : List mEn := [(0, .iload_n 1, 1, 0, 0, 0, 0), (1, .iconst 4, 2, 0, 0, 0, 4), (2, .invokestatic 15, 5, 16, 2, 0, 0), (5, .ifCond .eq 14, 8, 19, 0, 0, 0), (8, .aload_n 0, 9, 0, 0, 0, 0), (9, .getfield 9, 12, 3, 0, 1, 0), (12, .iload_n 1, 13, 0, 0, 0, 0), (13, .iconst 2, 14, 0, 0, 0, 2), (14, .ishr, 15, 0, 0, 0, 0), (15, .iaload, 16, 0, 0, 0, 0), (16, .goto 4, 19, 20, 0, 0, 0), (19, .iconst 0, 20, 0, 0, 0, 0), (20, .ireturn, 21, 0, 0, 0, 0)]
def cd_18 : List mEn := [(0, .iload_n 1, 1, 0, 0, 0, 0), (1, .iconst 4, 2, 0, 0, 0, 4), (2, .invokestatic 15, 5, 16, 2, 0, 0), (5, .ifCond .eq 12, 8, 17, 0, 0, 0), (8, .aload_n 0, 9, 0, 0, 0, 0), (9, .getfield 9, 12, 3, 0, 1, 0), (12, .iload_n 1, 13, 0, 0, 0, 0), (13, .iconst 2, 14, 0, 0, 0, 2), (14, .ishr, 15, 0, 0, 0, 0), (15, .iload_n 2, 16, 0, 0, 0, 0), (16, .iastore, 17, 0, 0, 0, 0), (17, .return_, 18, 0, 0, 0, 0)]
def cd_19 : List mEn := [(0, .aload_n 0, 1, 0, 0, 0, 0), (1, .iload_n 1, 2, 0, 0, 0, 0), (2, .bipush (-4), 4, 0, 0, 0, -4), (4, .iand, 5, 0, 0, 0, 0), (5, .invokevirtual 19, 8, 17, 2, 0, 0), (8, .iload_n 1, 9, 0, 0, 0, 0), (9, .invokestatic 23, 12, 21, 1, 0, 0), (12, .iushr, 13, 0, 0, 0, 0), (13, .ireturn, 14, 0, 0, 0, 0)]
def cd_20 : List mEn := [(0, .iload_n 2, 1, 0, 0, 0, 0), (1, .iconst 4, 2, 0, 0, 0, 4), (2, .if_icmp .ne 7, 5, 9, 0, 0, 0), (5, .iconst (-1), 6, 0, 0, 0, -1), (6, .goto 11, 9, 17, 0, 0, 0), (9, .iconst 1, 10, 0, 0, 0, 1), (10, .iload_n 2, 11, 0, 0, 0, 0), (11, .bipush 8, 13, 0, 0, 0, 8), (13, .imul, 14, 0, 0, 0, 0), (14, .ishl, 15, 0, 0, 0, 0), (15, .iconst 1, 16, 0, 0, 0, 1), (16, .isub, 17, 0, 0, 0, 0), (17, .istore 4, 19, 0, 0, 0, 0), (19, .iload 4, 21, 0, 0, 0, 0), (21, .iload_n 1, 22, 0, 0, 0, 0), (22, .invokestatic 23, 25, 21, 1, 0, 0), (25, .ishl, 26, 0, 0, 0, 0), (26, .istore 5, 28, 0, 0, 0, 0), (28, .aload_n 0, 29, 0, 0, 0, 0), (29, .iload_n 1, 30, 0, 0, 0, 0), (30, .bipush (-4), 32, 0, 0, 0, -4), (32, .iand, 33, 0, 0, 0, 0), (33, .invokevirtual 19, 36, 17, 2, 0, 0), (36, .iload 5, 38, 0, 0, 0, 0), (38, .iconst (-1), 39, 0, 0, 0, -1), (39, .ixor, 40, 0, 0, 0, 0), (40, .iand, 41, 0, 0, 0, 0), (41, .istore 6, 43, 0, 0, 0, 0), (43, .aload_n 0, 44, 0, 0, 0, 0), (44, .iload_n 1, 45, 0, 0, 0, 0), (45, .bipush (-4), 47, 0, 0, 0, -4), (47, .iand, 48, 0, 0, 0, 0), (48, .iload 6, 50, 0, 0, 0, 0), (50, .iload_n 3, 51, 0, 0, 0, 0), (51, .iload_n 1, 52, 0, 0, 0, 0), (52, .invokestatic 23, 55, 21, 1, 0, 0), (55, .ishl, 56, 0, 0, 0, 0), (56, .iload 5, 58, 0, 0, 0, 0), (58, .iand, 59, 0, 0, 0, 0), (59, .ior, 60, 0, 0, 0, 0), (60, .invokevirtual 26, 63, 18, 3, 0, 0), (63, .return_, 64, 0, 0, 0, 0)]
def cd_21 : List mEn := [(0, .iload_n 0, 1, 0, 0, 0, 0), (1, .iconst 3, 2, 0, 0, 0, 3), (2, .iand, 3, 0, 0, 0, 0), (3, .bipush 8, 5, 0, 0, 0, 8), (5, .imul, 6, 0, 0, 0, 0), (6, .ireturn, 7, 0, 0, 0, 0)]
def cd_22 : List mEn := [(0, .aload_n 0, 1, 0, 0, 0, 0), (1, .invokespecial 3, 4, 0, 1, 0, 0), (4, .aload_n 0, 5, 0, 0, 0, 0), (5, .new 9, 8, 3, 0, 0, 0), (8, .dup, 9, 0, 0, 0, 0), (9, .invokespecial 11, 12, 16, 1, 0, 0), (12, .putfield 12, 15, 4, 1, 1, 0), (15, .aload_n 0, 16, 0, 0, 0, 0), (16, .bipush 8, 18, 0, 0, 0, 8), (18, .anewarray 18, 21, 22, 0, 0, 0), (21, .putfield 20, 24, 4, 2, 1, 0), (24, .aload_n 0, 25, 0, 0, 0, 0), (25, .iconst 4, 26, 0, 0, 0, 4), (26, .newarray .int, 28, 10, 0, 0, 0), (28, .putfield 24, 31, 4, 3, 1, 0), (31, .aload_n 0, 32, 0, 0, 0, 0), (32, .iconst 4, 33, 0, 0, 0, 4), (33, .newarray .int, 35, 10, 0, 0, 0), (35, .putfield 28, 38, 4, 4, 1, 0), (38, .aload_n 0, 39, 0, 0, 0, 0), (39, .iload_n 1, 40, 0, 0, 0, 0), (40, .putfield 31, 43, 4, 0, 0, 0), (43, .iconst 0, 44, 0, 0, 0, 0), (44, .istore_n 2, 45, 0, 0, 0, 0), (45, .iload_n 2, 46, 0, 0, 0, 0), (46, .bipush 8, 48, 0, 0, 0, 8), (48, .if_icmp .ge 23, 51, 71, 0, 0, 0), (51, .aload_n 0, 52, 0, 0, 0, 0), (52, .getfield 20, 55, 4, 2, 1, 0), (55, .iload_n 2, 56, 0, 0, 0, 0), (56, .new 18, 59, 5, 0, 0, 0), (59, .dup, 60, 0, 0, 0, 0), (60, .iload_n 2, 61, 0, 0, 0, 0), (61, .invokespecial 35, 64, 43, 2, 0, 0), (64, .aastore, 65, 0, 0, 0, 0), (65, .iinc 2 1, 68, 0, 0, 0, 1), (68, .goto (-23), 71, 45, 0, 0, 0), (71, .return_, 72, 0, 0, 0, 0)]
def cd_23 : List mEn := [(0, .aload_n 0, 1, 0, 0, 0, 0), (1, .getfield 38, 4, 4, 5, 0, 0), (4, .bipush 8, 6, 0, 0, 0, 8), (6, .if_icmp .lt 5, 9, 11, 0, 0, 0), (9, .iconst (-1), 10, 0, 0, 0, -1), (10, .ireturn, 11, 0, 0, 0, 0), (11, .aload_n 0, 12, 0, 0, 0, 0), (12, .getfield 20, 15, 4, 2, 1, 0), (15, .aload_n 0, 16, 0, 0, 0, 0), (16, .getfield 38, 19, 4, 5, 0, 0), (19, .aaload, 20, 0, 0, 0, 0), (20, .astore 5, 22, 0, 0, 0, 0), (22, .aload 5, 24, 0, 0, 0, 0), (24, .iload_n 1, 25, 0, 0, 0, 0), (25, .putfield 41, 28, 5, 2, 0, 0), (28, .aload 5, 30, 0, 0, 0, 0), (30, .iload_n 2, 31, 0, 0, 0, 0), (31, .putfield 44, 34, 5, 3, 0, 0), (34, .aload 5, 36, 0, 0, 0, 0), (36, .iload_n 3, 37, 0, 0, 0, 0), (37, .putfield 47, 40, 5, 4, 0, 0), (40, .aload 5, 42, 0, 0, 0, 0), (42, .iload 4, 44, 0, 0, 0, 0), (44, .putfield 50, 47, 5, 5, 0, 0), (47, .aload_n 0, 48, 0, 0, 0, 0), (48, .dup, 49, 0, 0, 0, 0), (49, .getfield 38, 52, 4, 5, 0, 0), (52, .iconst 1, 53, 0, 0, 0, 1), (53, .iadd, 54, 0, 0, 0, 0), (54, .putfield 38, 57, 4, 5, 0, 0), (57, .aload 5, 59, 0, 0, 0, 0), (59, .getfield 53, 62, 5, 0, 0, 0), (62, .ireturn, 63, 0, 0, 0, 0)]
def cd_24 : List mEn := [(0, .iload_n 1, 1, 0, 0, 0, 0), (1, .ifCond .lt 20, 4, 21, 0, 0, 0), (4, .iload_n 1, 5, 0, 0, 0, 0), (5, .aload_n 0, 6, 0, 0, 0, 0), (6, .getfield 38, 9, 4, 5, 0, 0), (9, .if_icmp .ge 12, 12, 21, 0, 0, 0), (12, .aload_n 0, 13, 0, 0, 0, 0), (13, .getfield 20, 16, 4, 2, 1, 0), (16, .iload_n 1, 17, 0, 0, 0, 0), (17, .aaload, 18, 0, 0, 0, 0), (18, .goto 4, 21, 22, 0, 0, 0), (21, .aconst_null, 22, 0, 0, 0, 0), (22, .areturn, 23, 0, 0, 0, 0)]
def cd_25 : List mEn := [(0, .iload_n 1, 1, 0, 0, 0, 0), (1, .ifCond .lt 17, 4, 18, 0, 0, 0), (4, .iload_n 1, 5, 0, 0, 0, 0), (5, .iconst 4, 6, 0, 0, 0, 4), (6, .if_icmp .ge 12, 9, 18, 0, 0, 0), (9, .aload_n 0, 10, 0, 0, 0, 0), (10, .getfield 28, 13, 4, 4, 1, 0), (13, .iload_n 1, 14, 0, 0, 0, 0), (14, .iaload, 15, 0, 0, 0, 0), (15, .goto 4, 18, 19, 0, 0, 0), (18, .iconst 0, 19, 0, 0, 0, 0), (19, .ireturn, 20, 0, 0, 0, 0)]
def cd_26 : List mEn := [(0, .iload_n 1, 1, 0, 0, 0, 0), (1, .tableswitch 59 0 3 #[31, 44, 49, 54], 32, 60, 2, 0, 0), (32, .aload_n 0, 33, 0, 0, 0, 0), (33, .getfield 54, 36, 4, 8, 2, 0), (36, .ifCond .eq 7, 39, 43, 0, 0, 0), (39, .iconst 1, 40, 0, 0, 0, 1), (40, .goto 4, 43, 44, 0, 0, 0), (43, .iconst 0, 44, 0, 0, 0, 0), (44, .ireturn, 45, 0, 0, 0, 0), (45, .aload_n 0, 46, 0, 0, 0, 0), (46, .getfield 38, 49, 4, 5, 0, 0), (49, .ireturn, 50, 0, 0, 0, 0), (50, .aload_n 0, 51, 0, 0, 0, 0), (51, .invokevirtual 58, 54, 38, 1, 0, 0), (54, .ireturn, 55, 0, 0, 0, 0), (55, .aload_n 0, 56, 0, 0, 0, 0), (56, .getfield 62, 59, 4, 7, 0, 0), (59, .ireturn, 60, 0, 0, 0, 0), (60, .iload_n 1, 61, 0, 0, 0, 0), (61, .iconst 4, 62, 0, 0, 0, 4), (62, .isub, 63, 0, 0, 0, 0), (63, .invokestatic 65, 66, 39, 1, 0, 0), (66, .ifCond .eq 14, 69, 80, 0, 0, 0), (69, .aload_n 0, 70, 0, 0, 0, 0), (70, .getfield 24, 73, 4, 3, 1, 0), (73, .iload_n 1, 74, 0, 0, 0, 0), (74, .iconst 4, 75, 0, 0, 0, 4), (75, .isub, 76, 0, 0, 0, 0), (76, .iaload, 77, 0, 0, 0, 0), (77, .goto 4, 80, 81, 0, 0, 0), (80, .iconst (-1), 81, 0, 0, 0, -1), (81, .ireturn, 82, 0, 0, 0, 0)]
def cd_27 : List mEn := [(0, .aload_n 1, 1, 0, 0, 0, 0), (1, .invokevirtual 69, 4, 45, 1, 0, 0), (4, .aload_n 1, 5, 0, 0, 0, 0), (5, .iload_n 2, 6, 0, 0, 0, 0), (6, .invokevirtual 72, 9, 46, 2, 0, 0), (9, .aload_n 0, 10, 0, 0, 0, 0), (10, .aload_n 1, 11, 0, 0, 0, 0), (11, .iconst 1, 12, 0, 0, 0, 1), (12, .iconst (-1), 13, 0, 0, 0, -1), (13, .iconst (-1), 14, 0, 0, 0, -1), (14, .invokevirtual 75, 17, 41, 5, 0, 0), (17, .return_, 18, 0, 0, 0, 0)]
def cd_28 : List mEn := [(0, .iconst 0, 1, 0, 0, 0, 0), (1, .istore_n 2, 2, 0, 0, 0, 0), (2, .iload_n 2, 3, 0, 0, 0, 0), (3, .aload_n 0, 4, 0, 0, 0, 0), (4, .getfield 38, 7, 4, 5, 0, 0), (7, .if_icmp .ge 20, 10, 27, 0, 0, 0), (10, .aload_n 0, 11, 0, 0, 0, 0), (11, .aload_n 0, 12, 0, 0, 0, 0), (12, .getfield 20, 15, 4, 2, 1, 0), (15, .iload_n 2, 16, 0, 0, 0, 0), (16, .aaload, 17, 0, 0, 0, 0), (17, .iload_n 1, 18, 0, 0, 0, 0), (18, .invokevirtual 79, 21, 27, 3, 0, 0), (21, .iinc 2 1, 24, 0, 0, 0, 1), (24, .goto (-22), 27, 2, 0, 0, 0), (27, .iconst 0, 28, 0, 0, 0, 0), (28, .istore_n 2, 29, 0, 0, 0, 0), (29, .iload_n 2, 30, 0, 0, 0, 0), (30, .iconst 4, 31, 0, 0, 0, 4), (31, .if_icmp .ge 16, 34, 47, 0, 0, 0), (34, .aload_n 0, 35, 0, 0, 0, 0), (35, .getfield 24, 38, 4, 3, 1, 0), (38, .iload_n 2, 39, 0, 0, 0, 0), (39, .iconst 0, 40, 0, 0, 0, 0), (40, .iastore, 41, 0, 0, 0, 0), (41, .iinc 2 1, 44, 0, 0, 0, 1), (44, .goto (-15), 47, 29, 0, 0, 0), (47, .return_, 48, 0, 0, 0, 0)]
def cd_29 : List mEn := [(0, .aload_n 1, 1, 0, 0, 0, 0), (1, .iconst (-1), 2, 0, 0, 0, -1), (2, .putfield 83, 5, 5, 8, 0, 0), (5, .aload_n 0, 6, 0, 0, 0, 0), (6, .aload_n 1, 7, 0, 0, 0, 0), (7, .iconst 0, 8, 0, 0, 0, 0), (8, .iconst (-1), 9, 0, 0, 0, -1), (9, .iconst (-1), 10, 0, 0, 0, -1), (10, .invokevirtual 75, 13, 41, 5, 0, 0), (13, .return_, 14, 0, 0, 0, 0)]
def cd_30 : List mEn := [(0, .iconst 0, 1, 0, 0, 0, 0), (1, .istore_n 2, 2, 0, 0, 0, 0), (2, .iload_n 2, 3, 0, 0, 0, 0), (3, .aload_n 0, 4, 0, 0, 0, 0), (4, .getfield 38, 7, 4, 5, 0, 0), (7, .if_icmp .ge 28, 10, 35, 0, 0, 0), (10, .aload_n 0, 11, 0, 0, 0, 0), (11, .iload_n 1, 12, 0, 0, 0, 0), (12, .invokevirtual 86, 15, 40, 2, 0, 0), (15, .astore_n 3, 16, 0, 0, 0, 0), (16, .aload_n 3, 17, 0, 0, 0, 0), (17, .ifnonnull 4, 20, 21, 0, 0, 0), (20, .return_, 21, 0, 0, 0, 0), (21, .aload_n 0, 22, 0, 0, 0, 0), (22, .aload_n 3, 23, 0, 0, 0, 0), (23, .iconst 1, 24, 0, 0, 0, 1), (24, .iconst (-1), 25, 0, 0, 0, -1), (25, .iconst (-1), 26, 0, 0, 0, -1), (26, .invokevirtual 75, 29, 41, 5, 0, 0), (29, .iinc 2 1, 32, 0, 0, 0, 1), (32, .goto (-30), 35, 2, 0, 0, 0), (35, .return_, 36, 0, 0, 0, 0)]
def cd_31 : List mEn := [(0, .aconst_null, 1, 0, 0, 0, 0), (1, .astore_n 3, 2, 0, 0, 0, 0), (2, .iconst 0, 3, 0, 0, 0, 0), (3, .istore 4, 5, 0, 0, 0, 0), (5, .iload 4, 7, 0, 0, 0, 0), (7, .aload_n 0, 8, 0, 0, 0, 0), (8, .getfield 38, 11, 4, 5, 0, 0), (11, .if_icmp .ge 48, 14, 59, 0, 0, 0), (14, .aload_n 0, 15, 0, 0, 0, 0), (15, .getfield 20, 18, 4, 2, 1, 0), (18, .iload 4, 20, 0, 0, 0, 0), (20, .aaload, 21, 0, 0, 0, 0), (21, .astore 5, 23, 0, 0, 0, 0), (23, .aload 5, 25, 0, 0, 0, 0), (25, .getfield 90, 28, 5, 7, 0, 0), (28, .iload_n 1, 29, 0, 0, 0, 0), (29, .if_icmp .ne 24, 32, 53, 0, 0, 0), (32, .aload 5, 34, 0, 0, 0, 0), (34, .getfield 93, 37, 5, 11, 0, 0), (37, .iload_n 2, 38, 0, 0, 0, 0), (38, .if_icmp .ne 15, 41, 53, 0, 0, 0), (41, .aload 5, 43, 0, 0, 0, 0), (43, .aload_n 3, 44, 0, 0, 0, 0), (44, .invokevirtual 96, 47, 48, 2, 0, 0), (47, .ifCond .eq 6, 50, 53, 0, 0, 0), (50, .aload 5, 52, 0, 0, 0, 0), (52, .astore_n 3, 53, 0, 0, 0, 0), (53, .iinc 4 1, 56, 0, 0, 0, 1), (56, .goto (-51), 59, 5, 0, 0, 0), (59, .aload_n 3, 60, 0, 0, 0, 0), (60, .areturn, 61, 0, 0, 0, 0)]
def cd_32 : List mEn := [(0, .aload_n 1, 1, 0, 0, 0, 0), (1, .getfield 47, 4, 5, 4, 0, 0), (4, .ifCond .ne 5, 7, 9, 0, 0, 0), (7, .iconst 1, 8, 0, 0, 0, 1), (8, .ireturn, 9, 0, 0, 0, 0), (9, .aload_n 1, 10, 0, 0, 0, 0), (10, .aload_n 1, 11, 0, 0, 0, 0), (11, .getfield 100, 14, 5, 9, 0, 0), (14, .aload_n 1, 15, 0, 0, 0, 0), (15, .getfield 47, 18, 5, 4, 0, 0), (18, .iadd, 19, 0, 0, 0, 0), (19, .invokevirtual 72, 22, 46, 2, 0, 0), (22, .aload_n 0, 23, 0, 0, 0, 0), (23, .aload_n 1, 24, 0, 0, 0, 0), (24, .iconst 2, 25, 0, 0, 0, 2), (25, .aload_n 1, 26, 0, 0, 0, 0), (26, .getfield 100, 29, 5, 9, 0, 0), (29, .iconst (-1), 30, 0, 0, 0, -1), (30, .invokevirtual 75, 33, 41, 5, 0, 0), (33, .iconst 0, 34, 0, 0, 0, 0), (34, .ireturn, 35, 0, 0, 0, 0)]
def cd_33 : List mEn := [(0, .iload_n 2, 1, 0, 0, 0, 0), (1, .invokestatic 103, 4, 88, 1, 0, 0), (4, .ifCond .ne 5, 7, 9, 0, 0, 0), (7, .iconst 1, 8, 0, 0, 0, 1), (8, .ireturn, 9, 0, 0, 0, 0), (9, .aload_n 0, 10, 0, 0, 0, 0), (10, .aload_n 1, 11, 0, 0, 0, 0), (11, .iconst 2, 12, 0, 0, 0, 2), (12, .iload_n 3, 13, 0, 0, 0, 0), (13, .iload_n 2, 14, 0, 0, 0, 0), (14, .iadd, 15, 0, 0, 0, 0), (15, .iconst (-1), 16, 0, 0, 0, -1), (16, .invokevirtual 75, 19, 41, 5, 0, 0), (19, .iconst 0, 20, 0, 0, 0, 0), (20, .ireturn, 21, 0, 0, 0, 0)]
def cd_34 : List mEn := [(0, .aload_n 0, 1, 0, 0, 0, 0), (1, .iload_n 1, 2, 0, 0, 0, 0), (2, .invokevirtual 106, 5, 24, 2, 0, 0), (5, .astore_n 3, 6, 0, 0, 0, 0), (6, .aload_n 3, 7, 0, 0, 0, 0), (7, .ifnull 10, 10, 17, 0, 0, 0), (10, .aload_n 3, 11, 0, 0, 0, 0), (11, .getfield 90, 14, 5, 7, 0, 0), (14, .ifCond .eq 5, 17, 19, 0, 0, 0), (17, .iconst 1, 18, 0, 0, 0, 1), (18, .ireturn, 19, 0, 0, 0, 0), (19, .aload_n 0, 20, 0, 0, 0, 0), (20, .aload_n 3, 21, 0, 0, 0, 0), (21, .iload_n 2, 22, 0, 0, 0, 0), (22, .invokevirtual 79, 25, 27, 3, 0, 0), (25, .iconst 0, 26, 0, 0, 0, 0), (26, .ireturn, 27, 0, 0, 0, 0)]
def cd_35 : List mEn := [(0, .aload_n 0, 1, 0, 0, 0, 0), (1, .iload_n 1, 2, 0, 0, 0, 0), (2, .invokevirtual 106, 5, 24, 2, 0, 0), (5, .astore_n 3, 6, 0, 0, 0, 0), (6, .aload_n 3, 7, 0, 0, 0, 0), (7, .ifnull 10, 10, 17, 0, 0, 0), (10, .iload_n 2, 11, 0, 0, 0, 0), (11, .invokestatic 109, 14, 87, 1, 0, 0), (14, .ifCond .ne 5, 17, 19, 0, 0, 0), (17, .iconst 1, 18, 0, 0, 0, 1), (18, .ireturn, 19, 0, 0, 0, 0), (19, .aload_n 3, 20, 0, 0, 0, 0), (20, .iload_n 2, 21, 0, 0, 0, 0), (21, .putfield 44, 24, 5, 3, 0, 0), (24, .iconst 0, 25, 0, 0, 0, 0), (25, .ireturn, 26, 0, 0, 0, 0)]
def cd_36 : List mEn := [(0, .iload_n 2, 1, 0, 0, 0, 0), (1, .invokestatic 65, 4, 39, 1, 0, 0), (4, .ifCond .ne 5, 7, 9, 0, 0, 0), (7, .iconst 1, 8, 0, 0, 0, 1), (8, .ireturn, 9, 0, 0, 0, 0), (9, .aload_n 0, 10, 0, 0, 0, 0), (10, .getfield 24, 13, 4, 3, 1, 0), (13, .iload_n 2, 14, 0, 0, 0, 0), (14, .iaload, 15, 0, 0, 0, 0), (15, .ifCond .le 16, 18, 31, 0, 0, 0), (18, .aload_n 0, 19, 0, 0, 0, 0), (19, .getfield 24, 22, 4, 3, 1, 0), (22, .iload_n 2, 23, 0, 0, 0, 0), (23, .dup2, 24, 0, 0, 0, 0), (24, .iaload, 25, 0, 0, 0, 0), (25, .iconst 1, 26, 0, 0, 0, 1), (26, .isub, 27, 0, 0, 0, 0), (27, .iastore, 28, 0, 0, 0, 0), (28, .goto 11, 31, 39, 0, 0, 0), (31, .aload_n 0, 32, 0, 0, 0, 0), (32, .aload_n 1, 33, 0, 0, 0, 0), (33, .iconst 3, 34, 0, 0, 0, 3), (34, .iconst (-1), 35, 0, 0, 0, -1), (35, .iload_n 2, 36, 0, 0, 0, 0), (36, .invokevirtual 75, 39, 41, 5, 0, 0), (39, .iconst 0, 40, 0, 0, 0, 0), (40, .ireturn, 41, 0, 0, 0, 0)]
def cd_37 : List mEn := [(0, .iload_n 1, 1, 0, 0, 0, 0), (1, .invokestatic 65, 4, 39, 1, 0, 0), (4, .ifCond .ne 5, 7, 9, 0, 0, 0), (7, .iconst 1, 8, 0, 0, 0, 1), (8, .ireturn, 9, 0, 0, 0, 0), (9, .aload_n 0, 10, 0, 0, 0, 0), (10, .iconst 3, 11, 0, 0, 0, 3), (11, .iload_n 1, 12, 0, 0, 0, 0), (12, .invokevirtual 112, 15, 31, 3, 0, 0), (15, .astore_n 2, 16, 0, 0, 0, 0), (16, .aload_n 2, 17, 0, 0, 0, 0), (17, .ifnull 13, 20, 30, 0, 0, 0), (20, .aload_n 0, 21, 0, 0, 0, 0), (21, .aload_n 2, 22, 0, 0, 0, 0), (22, .iconst 1, 23, 0, 0, 0, 1), (23, .iconst (-1), 24, 0, 0, 0, -1), (24, .iconst (-1), 25, 0, 0, 0, -1), (25, .invokevirtual 75, 28, 41, 5, 0, 0), (28, .iconst 0, 29, 0, 0, 0, 0), (29, .ireturn, 30, 0, 0, 0, 0), (30, .aload_n 0, 31, 0, 0, 0, 0), (31, .getfield 24, 34, 4, 3, 1, 0), (34, .iload_n 1, 35, 0, 0, 0, 0), (35, .iaload, 36, 0, 0, 0, 0), (36, .sipush 1000, 39, 0, 0, 0, 1000), (39, .if_icmp .lt 5, 42, 44, 0, 0, 0), (42, .iconst 1, 43, 0, 0, 0, 1), (43, .ireturn, 44, 0, 0, 0, 0), (44, .aload_n 0, 45, 0, 0, 0, 0), (45, .getfield 24, 48, 4, 3, 1, 0), (48, .iload_n 1, 49, 0, 0, 0, 0), (49, .dup2, 50, 0, 0, 0, 0), (50, .iaload, 51, 0, 0, 0, 0), (51, .iconst 1, 52, 0, 0, 0, 1), (52, .iadd, 53, 0, 0, 0, 0), (53, .iastore, 54, 0, 0, 0, 0), (54, .iconst 0, 55, 0, 0, 0, 0), (55, .ireturn, 56, 0, 0, 0, 0)]
def cd_38 : List mEn := [(0, .aload_n 0, 1, 0, 0, 0, 0), (1, .iconst 1, 2, 0, 0, 0, 1), (2, .iconst (-1), 3, 0, 0, 0, -1), (3, .invokevirtual 112, 6, 31, 3, 0, 0), (6, .astore_n 1, 7, 0, 0, 0, 0), (7, .aload_n 1, 8, 0, 0, 0, 0), (8, .ifnonnull 7, 11, 15, 0, 0, 0), (11, .iconst (-1), 12, 0, 0, 0, -1), (12, .goto 7, 15, 19, 0, 0, 0), (15, .aload_n 1, 16, 0, 0, 0, 0), (16, .getfield 53, 19, 5, 0, 0, 0), (19, .ireturn, 20, 0, 0, 0, 0)]
def cd_39 : List mEn := [(0, .iload_n 0, 1, 0, 0, 0, 0), (1, .ifCond .lt 12, 4, 13, 0, 0, 0), (4, .iload_n 0, 5, 0, 0, 0, 0), (5, .iconst 4, 6, 0, 0, 0, 4), (6, .if_icmp .ge 7, 9, 13, 0, 0, 0), (9, .iconst 1, 10, 0, 0, 0, 1), (10, .goto 4, 13, 14, 0, 0, 0), (13, .iconst 0, 14, 0, 0, 0, 0), (14, .ireturn, 15, 0, 0, 2, 0)]
def cd_40 : List mEn := [(0, .aconst_null, 1, 0, 0, 0, 0), (1, .astore_n 2, 2, 0, 0, 0, 0), (2, .iconst 0, 3, 0, 0, 0, 0), (3, .istore_n 3, 4, 0, 0, 0, 0), (4, .iload_n 3, 5, 0, 0, 0, 0), (5, .aload_n 0, 6, 0, 0, 0, 0), (6, .getfield 38, 9, 4, 5, 0, 0), (9, .if_icmp .ge 66, 12, 75, 0, 0, 0), (12, .aload_n 0, 13, 0, 0, 0, 0), (13, .getfield 20, 16, 4, 2, 1, 0), (16, .iload_n 3, 17, 0, 0, 0, 0), (17, .aaload, 18, 0, 0, 0, 0), (18, .astore 4, 20, 0, 0, 0, 0), (20, .aload 4, 22, 0, 0, 0, 0), (22, .getfield 90, 25, 5, 7, 0, 0), (25, .iconst 2, 26, 0, 0, 0, 2), (26, .if_icmp .ne 16, 29, 42, 0, 0, 0), (29, .aload 4, 31, 0, 0, 0, 0), (31, .getfield 116, 34, 5, 10, 0, 0), (34, .iload_n 1, 35, 0, 0, 0, 0), (35, .if_icmp .gt 7, 38, 42, 0, 0, 0), (38, .iconst 1, 39, 0, 0, 0, 1), (39, .goto 4, 42, 43, 0, 0, 0), (42, .iconst 0, 43, 0, 0, 0, 0), (43, .istore 5, 45, 0, 0, 0, 0), (45, .iload 5, 47, 0, 0, 0, 0), (47, .ifCond .eq 22, 50, 69, 0, 0, 0), (50, .aload_n 2, 51, 0, 0, 0, 0), (51, .ifnull 15, 54, 66, 0, 0, 0), (54, .aload 4, 56, 0, 0, 0, 0), (56, .getfield 116, 59, 5, 10, 0, 0), (59, .aload_n 2, 60, 0, 0, 0, 0), (60, .getfield 116, 63, 5, 10, 0, 0), (63, .if_icmp .ge 6, 66, 69, 0, 0, 0), (66, .aload 4, 68, 0, 0, 0, 0), (68, .astore_n 2, 69, 0, 0, 0, 0), (69, .iinc 3 1, 72, 0, 0, 0, 1), (72, .goto (-68), 75, 4, 0, 0, 0), (75, .aload_n 2, 76, 0, 0, 0, 0), (76, .areturn, 77, 0, 0, 0, 0)]
def cd_41 : List mEn := [(0, .aload_n 1, 1, 0, 0, 0, 0), (1, .iload_n 2, 2, 0, 0, 0, 0), (2, .putfield 90, 5, 5, 7, 0, 0), (5, .aload_n 1, 6, 0, 0, 0, 0), (6, .iload_n 3, 7, 0, 0, 0, 0), (7, .putfield 116, 10, 5, 10, 0, 0), (10, .aload_n 1, 11, 0, 0, 0, 0), (11, .iload 4, 13, 0, 0, 0, 0), (13, .putfield 93, 16, 5, 11, 0, 0), (16, .aload_n 1, 17, 0, 0, 0, 0), (17, .aload_n 0, 18, 0, 0, 0, 0), (18, .getfield 119, 21, 4, 6, 0, 0), (21, .putfield 122, 24, 5, 12, 0, 0), (24, .aload_n 0, 25, 0, 0, 0, 0), (25, .dup, 26, 0, 0, 0, 0), (26, .getfield 119, 29, 4, 6, 0, 0), (29, .iconst 1, 30, 0, 0, 0, 1), (30, .iadd, 31, 0, 0, 0, 0), (31, .putfield 119, 34, 4, 6, 0, 0), (34, .return_, 35, 0, 0, 0, 0)]
def cd_42 : List mEn := [(0, .aload_n 0, 1, 0, 0, 0, 0), (1, .invokespecial 3, 4, 0, 1, 0, 0), (4, .aload_n 0, 5, 0, 0, 0, 0), (5, .bipush 32, 7, 0, 0, 0, 32), (7, .newarray .int, 9, 13, 0, 0, 0), (9, .putfield 9, 12, 5, 1, 1, 0), (12, .aload_n 0, 13, 0, 0, 0, 0), (13, .iconst 0, 14, 0, 0, 0, 0), (14, .putfield 15, 17, 5, 7, 0, 0), (17, .aload_n 0, 18, 0, 0, 0, 0), (18, .iconst (-1), 19, 0, 0, 0, -1), (19, .putfield 19, 22, 5, 8, 0, 0), (22, .aload_n 0, 23, 0, 0, 0, 0), (23, .iconst (-1), 24, 0, 0, 0, -1), (24, .putfield 22, 27, 5, 10, 0, 0), (27, .aload_n 0, 28, 0, 0, 0, 0), (28, .iconst (-1), 29, 0, 0, 0, -1), (29, .putfield 25, 32, 5, 11, 0, 0), (32, .aload_n 0, 33, 0, 0, 0, 0), (33, .iload_n 1, 34, 0, 0, 0, 0), (34, .putfield 28, 37, 5, 0, 0, 0), (37, .return_, 38, 0, 0, 0, 0)]
def cd_43 : List mEn := [(0, .iload_n 1, 1, 0, 0, 0, 0), (1, .ifCond .lt 18, 4, 19, 0, 0, 0), (4, .iload_n 1, 5, 0, 0, 0, 0), (5, .bipush 32, 7, 0, 0, 0, 32), (7, .if_icmp .ge 12, 10, 19, 0, 0, 0), (10, .aload_n 0, 11, 0, 0, 0, 0), (11, .getfield 9, 14, 5, 1, 1, 0), (14, .iload_n 1, 15, 0, 0, 0, 0), (15, .iaload, 16, 0, 0, 0, 0), (16, .goto 4, 19, 20, 0, 0, 0), (19, .iconst 0, 20, 0, 0, 0, 0), (20, .ireturn, 21, 0, 0, 0, 0)]
def cd_44 : List mEn := [(0, .iload_n 1, 1, 0, 0, 0, 0), (1, .ifCond .le 16, 4, 17, 0, 0, 0), (4, .iload_n 1, 5, 0, 0, 0, 0), (5, .bipush 32, 7, 0, 0, 0, 32), (7, .if_icmp .ge 10, 10, 17, 0, 0, 0), (10, .aload_n 0, 11, 0, 0, 0, 0), (11, .getfield 9, 14, 5, 1, 1, 0), (14, .iload_n 1, 15, 0, 0, 0, 0), (15, .iload_n 2, 16, 0, 0, 0, 0), (16, .iastore, 17, 0, 0, 0, 0), (17, .return_, 18, 0, 0, 0, 0)]
def cd_45 : List mEn := [(0, .iconst 0, 1, 0, 0, 0, 0), (1, .istore_n 1, 2, 0, 0, 0, 0), (2, .iload_n 1, 3, 0, 0, 0, 0), (3, .bipush 32, 5, 0, 0, 0, 32), (5, .if_icmp .ge 16, 8, 21, 0, 0, 0), (8, .aload_n 0, 9, 0, 0, 0, 0), (9, .getfield 9, 12, 5, 1, 1, 0), (12, .iload_n 1, 13, 0, 0, 0, 0), (13, .iconst 0, 14, 0, 0, 0, 0), (14, .iastore, 15, 0, 0, 0, 0), (15, .iinc 1 1, 18, 0, 0, 0, 1), (18, .goto (-16), 21, 2, 0, 0, 0), (21, .aload_n 0, 22, 0, 0, 0, 0), (22, .aload_n 0, 23, 0, 0, 0, 0), (23, .getfield 31, 26, 5, 2, 0, 0), (26, .putfield 34, 29, 5, 6, 0, 0), (29, .return_, 30, 0, 0, 0, 0)]
def cd_46 : List mEn := [(0, .aload_n 0, 1, 0, 0, 0, 0), (1, .iload_n 1, 2, 0, 0, 0, 0), (2, .putfield 37, 5, 5, 9, 0, 0), (5, .aload_n 0, 6, 0, 0, 0, 0), (6, .aload_n 0, 7, 0, 0, 0, 0), (7, .getfield 40, 10, 5, 5, 0, 0), (10, .ifCond .le 12, 13, 22, 0, 0, 0), (13, .iload_n 1, 14, 0, 0, 0, 0), (14, .aload_n 0, 15, 0, 0, 0, 0), (15, .getfield 40, 18, 5, 5, 0, 0), (18, .iadd, 19, 0, 0, 0, 0), (19, .goto 4, 22, 23, 0, 0, 0), (22, .iconst (-1), 23, 0, 0, 0, -1), (23, .putfield 19, 26, 5, 8, 0, 0), (26, .return_, 27, 0, 0, 0, 0)]
def cd_47 : List mEn := [(0, .aload_n 0, 1, 0, 0, 0, 0), (1, .getfield 19, 4, 5, 8, 0, 0), (4, .iconst (-1), 5, 0, 0, 0, -1), (5, .if_icmp .eq 15, 8, 20, 0, 0, 0), (8, .aload_n 0, 9, 0, 0, 0, 0), (9, .getfield 19, 12, 5, 8, 0, 0), (12, .iload_n 1, 13, 0, 0, 0, 0), (13, .if_icmp .ge 7, 16, 20, 0, 0, 0), (16, .iconst 1, 17, 0, 0, 0, 1), (17, .goto 4, 20, 21, 0, 0, 0), (20, .iconst 0, 21, 0, 0, 0, 0), (21, .ireturn, 22, 0, 0, 2, 0)]
def cd_48 : List mEn := [(0, .aload_n 1, 1, 0, 0, 0, 0), (1, .ifnonnull 5, 4, 6, 0, 0, 0), (4, .iconst 1, 5, 0, 0, 0, 1), (5, .ireturn, 6, 0, 0, 2, 0), (6, .aload_n 0, 7, 0, 0, 0, 0), (7, .getfield 43, 10, 5, 3, 0, 0), (10, .aload_n 1, 11, 0, 0, 0, 0), (11, .getfield 43, 14, 5, 3, 0, 0), (14, .if_icmp .ne 22, 17, 36, 0, 0, 0), (17, .aload_n 0, 18, 0, 0, 0, 0), (18, .getfield 46, 21, 5, 12, 0, 0), (21, .aload_n 1, 22, 0, 0, 0, 0), (22, .getfield 46, 25, 5, 12, 0, 0), (25, .if_icmp .ge 7, 28, 32, 0, 0, 0), (28, .iconst 1, 29, 0, 0, 0, 1), (29, .goto 23, 32, 52, 0, 0, 0), (32, .iconst 0, 33, 0, 0, 0, 0), (33, .goto 19, 36, 52, 0, 0, 0), (36, .aload_n 0, 37, 0, 0, 0, 0), (37, .getfield 43, 40, 5, 3, 0, 0), (40, .aload_n 1, 41, 0, 0, 0, 0), (41, .getfield 43, 44, 5, 3, 0, 0), (44, .if_icmp .le 7, 47, 51, 0, 0, 0), (47, .iconst 1, 48, 0, 0, 0, 1), (48, .goto 4, 51, 52, 0, 0, 0), (51, .iconst 0, 52, 0, 0, 0, 0), (52, .ireturn, 53, 0, 0, 2, 0)]
def cd_49 : List mEn := [(0, .iload_n 1, 1, 0, 0, 0, 0), (1, .tableswitch 87 0 7 #[47, 52, 57, 62, 67, 72, 77, 82], 48, 88, 3, 0, 0), (48, .aload_n 0, 49, 0, 0, 0, 0), (49, .getfield 15, 52, 5, 7, 0, 0), (52, .ireturn, 53, 0, 0, 0, 0), (53, .aload_n 0, 54, 0, 0, 0, 0), (54, .getfield 34, 57, 5, 6, 0, 0), (57, .ireturn, 58, 0, 0, 0, 0), (58, .aload_n 0, 59, 0, 0, 0, 0), (59, .getfield 43, 62, 5, 3, 0, 0), (62, .ireturn, 63, 0, 0, 0, 0), (63, .aload_n 0, 64, 0, 0, 0, 0), (64, .getfield 19, 67, 5, 8, 0, 0), (67, .ireturn, 68, 0, 0, 0, 0), (68, .aload_n 0, 69, 0, 0, 0, 0), (69, .getfield 22, 72, 5, 10, 0, 0), (72, .ireturn, 73, 0, 0, 0, 0), (73, .aload_n 0, 74, 0, 0, 0, 0), (74, .getfield 25, 77, 5, 11, 0, 0), (77, .ireturn, 78, 0, 0, 0, 0), (78, .aload_n 0, 79, 0, 0, 0, 0), (79, .getfield 49, 82, 5, 13, 0, 0), (82, .ireturn, 83, 0, 0, 0, 0), (83, .aload_n 0, 84, 0, 0, 0, 0), (84, .getfield 37, 87, 5, 9, 0, 0), (87, .ireturn, 88, 0, 0, 0, 0), (88, .iconst (-1), 89, 0, 0, 0, -1), (89, .ireturn, 90, 0, 0, 0, 0)]
def cd_50 : List mEn := [(0, .aload_n 0, 1, 0, 0, 0, 0), (1, .getfield 9, 4, 5, 6, 0, 0), (4, .iconst 4, 5, 0, 0, 0, 4), (5, .invokestatic 15, 8, 16, 2, 0, 0), (8, .ifCond .ne 5, 11, 13, 0, 0, 0), (11, .iconst 1, 12, 0, 0, 0, 1), (12, .ireturn, 13, 0, 0, 0, 0), (13, .aload_n 1, 14, 0, 0, 0, 0), (14, .aload_n 0, 15, 0, 0, 0, 0), (15, .getfield 9, 18, 5, 6, 0, 0), (18, .invokevirtual 21, 21, 17, 2, 0, 0), (21, .istore_n 2, 22, 0, 0, 0, 0), (22, .iload_n 2, 23, 0, 0, 0, 0), (23, .bipush 127, 25, 0, 0, 0, 127), (25, .iand, 26, 0, 0, 0, 0), (26, .lookupswitch 199 #[(3, 160), (19, 174), (23, 106), (35, 167), (51, 180), (55, 90), (99, 154), (103, 148), (111, 127), (115, 186)], 116, 225, 4, 0, 0), (116, .aload_n 0, 117, 0, 0, 0, 0), (117, .iload_n 2, 118, 0, 0, 0, 0), (118, .iload_n 2, 119, 0, 0, 0, 0), (119, .invokestatic 25, 122, 66, 1, 0, 0), (122, .aload_n 0, 123, 0, 0, 0, 0), (123, .getfield 9, 126, 5, 6, 0, 0), (126, .iconst 4, 127, 0, 0, 0, 4), (127, .iadd, 128, 0, 0, 0, 0), (128, .invokestatic 30, 131, 51, 4, 0, 0), (131, .ireturn, 132, 0, 0, 0, 0), (132, .aload_n 0, 133, 0, 0, 0, 0), (133, .iload_n 2, 134, 0, 0, 0, 0), (134, .aload_n 0, 135, 0, 0, 0, 0), (135, .getfield 9, 138, 5, 6, 0, 0), (138, .iload_n 2, 139, 0, 0, 0, 0), (139, .invokestatic 25, 142, 66, 1, 0, 0), (142, .iadd, 143, 0, 0, 0, 0), (143, .aload_n 0, 144, 0, 0, 0, 0), (144, .getfield 9, 147, 5, 6, 0, 0), (147, .iconst 4, 148, 0, 0, 0, 4), (148, .iadd, 149, 0, 0, 0, 0), (149, .invokestatic 30, 152, 51, 4, 0, 0), (152, .ireturn, 153, 0, 0, 0, 0), (153, .aload_n 0, 154, 0, 0, 0, 0), (154, .iload_n 2, 155, 0, 0, 0, 0), (155, .aload_n 0, 156, 0, 0, 0, 0), (156, .getfield 9, 159, 5, 6, 0, 0), (159, .iconst 4, 160, 0, 0, 0, 4), (160, .iadd, 161, 0, 0, 0, 0), (161, .aload_n 0, 162, 0, 0, 0, 0), (162, .getfield 9, 165, 5, 6, 0, 0), (165, .iload_n 2, 166, 0, 0, 0, 0), (166, .invokestatic 34, 169, 68, 1, 0, 0), (169, .iadd, 170, 0, 0, 0, 0), (170, .invokestatic 30, 173, 51, 4, 0, 0), (173, .ireturn, 174, 0, 0, 0, 0), (174, .aload_n 0, 175, 0, 0, 0, 0), (175, .iload_n 2, 176, 0, 0, 0, 0), (176, .invokestatic 37, 179, 52, 2, 0, 0), (179, .ireturn, 180, 0, 0, 0, 0), (180, .aload_n 0, 181, 0, 0, 0, 0), (181, .iload_n 2, 182, 0, 0, 0, 0), (182, .invokestatic 41, 185, 53, 2, 0, 0), (185, .ireturn, 186, 0, 0, 0, 0), (186, .aload_n 0, 187, 0, 0, 0, 0), (187, .iload_n 2, 188, 0, 0, 0, 0), (188, .aload_n 1, 189, 0, 0, 0, 0), (189, .invokestatic 44, 192, 54, 3, 0, 0), (192, .ireturn, 193, 0, 0, 0, 0), (193, .aload_n 0, 194, 0, 0, 0, 0), (194, .iload_n 2, 195, 0, 0, 0, 0), (195, .aload_n 1, 196, 0, 0, 0, 0), (196, .invokestatic 48, 199, 56, 3, 0, 0), (199, .ireturn, 200, 0, 0, 0, 0), (200, .aload_n 0, 201, 0, 0, 0, 0), (201, .iload_n 2, 202, 0, 0, 0, 0), (202, .invokestatic 51, 205, 57, 2, 0, 0), (205, .ireturn, 206, 0, 0, 0, 0), (206, .aload_n 0, 207, 0, 0, 0, 0), (207, .iload_n 2, 208, 0, 0, 0, 0), (208, .invokestatic 54, 211, 58, 2, 0, 0), (211, .ireturn, 212, 0, 0, 0, 0), (212, .iload_n 2, 213, 0, 0, 0, 0), (213, .bipush 115, 215, 0, 0, 0, 115), (215, .if_icmp .ne 8, 218, 223, 0, 0, 0), (218, .bipush (-2), 220, 0, 0, 0, -2), (220, .goto 4, 223, 224, 0, 0, 0), (223, .iconst 0, 224, 0, 0, 0, 0), (224, .ireturn, 225, 0, 0, 0, 0), (225, .iconst 0, 226, 0, 0, 0, 0), (226, .ireturn, 227, 0, 0, 0, 0)]
def cd_51 : List mEn := [(0, .aload_n 0, 1, 0, 0, 0, 0), (1, .iload_n 3, 2, 0, 0, 0, 0), (2, .putfield 9, 5, 5, 6, 0, 0), (5, .aload_n 0, 6, 0, 0, 0, 0), (6, .iload_n 1, 7, 0, 0, 0, 0), (7, .bipush 7, 9, 0, 0, 0, 7), (9, .ishr, 10, 0, 0, 0, 0), (10, .bipush 31, 12, 0, 0, 0, 31), (12, .iand, 13, 0, 0, 0, 0), (13, .iload_n 2, 14, 0, 0, 0, 0), (14, .invokevirtual 57, 17, 44, 3, 0, 0), (17, .iconst (-1), 18, 0, 0, 0, -1), (18, .ireturn, 19, 0, 0, 0, 0)]
def cd_52 : List mEn := [(0, .iload_n 1, 1, 0, 0, 0, 0), (1, .invokestatic 61, 4, 61, 1, 0, 0), (4, .ifCond .eq 5, 7, 9, 0, 0, 0), (7, .iconst 0, 8, 0, 0, 0, 0), (8, .ireturn, 9, 0, 0, 0, 0), (9, .aload_n 0, 10, 0, 0, 0, 0), (10, .iload_n 1, 11, 0, 0, 0, 0), (11, .aload_n 0, 12, 0, 0, 0, 0), (12, .getfield 9, 15, 5, 6, 0, 0), (15, .iconst 4, 16, 0, 0, 0, 4), (16, .iadd, 17, 0, 0, 0, 0), (17, .aload_n 0, 18, 0, 0, 0, 0), (18, .iload_n 1, 19, 0, 0, 0, 0), (19, .invokestatic 64, 22, 63, 2, 0, 0), (22, .iload_n 1, 23, 0, 0, 0, 0), (23, .invokestatic 67, 26, 65, 1, 0, 0), (26, .iadd, 27, 0, 0, 0, 0), (27, .bipush (-2), 29, 0, 0, 0, -2), (29, .iand, 30, 0, 0, 0, 0), (30, .invokestatic 30, 33, 51, 4, 0, 0), (33, .ireturn, 34, 0, 0, 0, 0)]
def cd_53 : List mEn := [(0, .aload_n 0, 1, 0, 0, 0, 0), (1, .iload_n 1, 2, 0, 0, 0, 0), (2, .invokestatic 64, 5, 63, 2, 0, 0), (5, .istore_n 2, 6, 0, 0, 0, 0), (6, .aload_n 0, 7, 0, 0, 0, 0), (7, .iload_n 1, 8, 0, 0, 0, 0), (8, .invokestatic 70, 11, 64, 2, 0, 0), (11, .istore_n 3, 12, 0, 0, 0, 0), (12, .iload_n 1, 13, 0, 0, 0, 0), (13, .invokestatic 61, 16, 61, 1, 0, 0), (16, .tableswitch 136 0 7 #[48, 63, 136, 136, 78, 93, 108, 118], 64, 152, 5, 0, 0), (64, .iload_n 2, 65, 0, 0, 0, 0), (65, .iload_n 3, 66, 0, 0, 0, 0), (66, .if_icmp .ne 7, 69, 73, 0, 0, 0), (69, .iconst 1, 70, 0, 0, 0, 1), (70, .goto 4, 73, 74, 0, 0, 0), (73, .iconst 0, 74, 0, 0, 0, 0), (74, .istore 4, 76, 0, 0, 0, 0), (76, .goto 78, 79, 154, 0, 0, 0), (79, .iload_n 2, 80, 0, 0, 0, 0), (80, .iload_n 3, 81, 0, 0, 0, 0), (81, .if_icmp .eq 7, 84, 88, 0, 0, 0), (84, .iconst 1, 85, 0, 0, 0, 1), (85, .goto 4, 88, 89, 0, 0, 0), (88, .iconst 0, 89, 0, 0, 0, 0), (89, .istore 4, 91, 0, 0, 0, 0), (91, .goto 63, 94, 154, 0, 0, 0), (94, .iload_n 2, 95, 0, 0, 0, 0), (95, .iload_n 3, 96, 0, 0, 0, 0), (96, .if_icmp .ge 7, 99, 103, 0, 0, 0), (99, .iconst 1, 100, 0, 0, 0, 1), (100, .goto 4, 103, 104, 0, 0, 0), (103, .iconst 0, 104, 0, 0, 0, 0), (104, .istore 4, 106, 0, 0, 0, 0), (106, .goto 48, 109, 154, 0, 0, 0), (109, .iload_n 2, 110, 0, 0, 0, 0), (110, .iload_n 3, 111, 0, 0, 0, 0), (111, .if_icmp .lt 7, 114, 118, 0, 0, 0), (114, .iconst 1, 115, 0, 0, 0, 1), (115, .goto 4, 118, 119, 0, 0, 0), (118, .iconst 0, 119, 0, 0, 0, 0), (119, .istore 4, 121, 0, 0, 0, 0), (121, .goto 33, 124, 154, 0, 0, 0), (124, .iload_n 2, 125, 0, 0, 0, 0), (125, .iload_n 3, 126, 0, 0, 0, 0), (126, .invokestatic 73, 129, 60, 2, 0, 0), (129, .istore 4, 131, 0, 0, 0, 0), (131, .goto 23, 134, 154, 0, 0, 0), (134, .iload_n 2, 135, 0, 0, 0, 0), (135, .iload_n 3, 136, 0, 0, 0, 0), (136, .invokestatic 73, 139, 60, 2, 0, 0), (139, .ifCond .ne 7, 142, 146, 0, 0, 0), (142, .iconst 1, 143, 0, 0, 0, 1), (143, .goto 4, 146, 147, 0, 0, 0), (146, .iconst 0, 147, 0, 0, 0, 0), (147, .istore 4, 149, 0, 0, 0, 0), (149, .goto 5, 152, 154, 0, 0, 0), (152, .iconst 0, 153, 0, 0, 0, 0), (153, .ireturn, 154, 0, 0, 0, 0), (154, .aload_n 0, 155, 0, 0, 0, 0), (155, .dup, 156, 0, 0, 0, 0), (156, .getfield 9, 159, 5, 6, 0, 0), (159, .iload 4, 161, 0, 0, 0, 0), (161, .ifCond .eq 10, 164, 171, 0, 0, 0), (164, .iload_n 1, 165, 0, 0, 0, 0), (165, .invokestatic 76, 168, 69, 1, 0, 0), (168, .goto 4, 171, 172, 0, 0, 0), (171, .iconst 4, 172, 0, 0, 0, 4), (172, .iadd, 173, 0, 0, 0, 0), (173, .putfield 9, 176, 5, 6, 0, 0), (176, .iconst (-1), 177, 0, 0, 0, -1), (177, .ireturn, 178, 0, 0, 0, 0)]
def cd_54 : List mEn := [(0, .iload_n 1, 1, 0, 0, 0, 0), (1, .invokestatic 61, 4, 61, 1, 0, 0), (4, .istore_n 3, 5, 0, 0, 0, 0), (5, .iload_n 3, 6, 0, 0, 0, 0), (6, .iconst 3, 7, 0, 0, 0, 3), (7, .if_icmp .eq 8, 10, 15, 0, 0, 0), (10, .iload_n 3, 11, 0, 0, 0, 0), (11, .iconst 5, 12, 0, 0, 0, 5), (12, .if_icmp .le 5, 15, 17, 0, 0, 0), (15, .iconst 0, 16, 0, 0, 0, 0), (16, .ireturn, 17, 0, 0, 0, 0), (17, .aload_n 0, 18, 0, 0, 0, 0), (18, .iload_n 1, 19, 0, 0, 0, 0), (19, .invokestatic 64, 22, 63, 2, 0, 0), (22, .iload_n 1, 23, 0, 0, 0, 0), (23, .invokestatic 67, 26, 65, 1, 0, 0), (26, .iadd, 27, 0, 0, 0, 0), (27, .istore 4, 29, 0, 0, 0, 0), (29, .iload 4, 31, 0, 0, 0, 0), (31, .iconst 1, 32, 0, 0, 0, 1), (32, .iload_n 3, 33, 0, 0, 0, 0), (33, .iconst 3, 34, 0, 0, 0, 3), (34, .iand, 35, 0, 0, 0, 0), (35, .ishl, 36, 0, 0, 0, 0), (36, .invokestatic 15, 39, 16, 2, 0, 0), (39, .ifCond .ne 5, 42, 44, 0, 0, 0), (42, .iconst 1, 43, 0, 0, 0, 1), (43, .ireturn, 44, 0, 0, 0, 0), (44, .aload_n 0, 45, 0, 0, 0, 0), (45, .iload_n 1, 46, 0, 0, 0, 0), (46, .aload_n 2, 47, 0, 0, 0, 0), (47, .iload 4, 49, 0, 0, 0, 0), (49, .invokevirtual 79, 52, 19, 2, 0, 0), (52, .iload_n 3, 53, 0, 0, 0, 0), (53, .invokestatic 82, 56, 55, 2, 0, 0), (56, .aload_n 0, 57, 0, 0, 0, 0), (57, .getfield 9, 60, 5, 6, 0, 0), (60, .iconst 4, 61, 0, 0, 0, 4), (61, .iadd, 62, 0, 0, 0, 0), (62, .invokestatic 30, 65, 51, 4, 0, 0), (65, .ireturn, 66, 0, 0, 0, 0)]
def cd_55 : List mEn := [(0, .iload_n 1, 1, 0, 0, 0, 0), (1, .tableswitch 56 0 5 #[39, 42, 56, 56, 45, 51], 40, 57, 6, 0, 0), (40, .iload_n 0, 41, 0, 0, 0, 0), (41, .i2b, 42, 0, 0, 0, 0), (42, .ireturn, 43, 0, 0, 0, 0), (43, .iload_n 0, 44, 0, 0, 0, 0), (44, .i2s, 45, 0, 0, 0, 0), (45, .ireturn, 46, 0, 0, 0, 0), (46, .iload_n 0, 47, 0, 0, 0, 0), (47, .sipush 255, 50, 0, 0, 0, 255), (50, .iand, 51, 0, 0, 0, 0), (51, .ireturn, 52, 0, 0, 0, 0), (52, .iload_n 0, 53, 0, 0, 0, 0), (53, .ldc 86, 55, 0, 0, 0, 65535), (55, .iand, 56, 0, 0, 0, 0), (56, .ireturn, 57, 0, 0, 0, 0), (57, .iload_n 0, 58, 0, 0, 0, 0), (58, .ireturn, 59, 0, 0, 0, 0)]
def cd_56 : List mEn := [(0, .iload_n 1, 1, 0, 0, 0, 0), (1, .invokestatic 61, 4, 61, 1, 0, 0), (4, .istore_n 3, 5, 0, 0, 0, 0), (5, .iload_n 3, 6, 0, 0, 0, 0), (6, .iconst 2, 7, 0, 0, 0, 2), (7, .if_icmp .le 5, 10, 12, 0, 0, 0), (10, .iconst 0, 11, 0, 0, 0, 0), (11, .ireturn, 12, 0, 0, 0, 0), (12, .aload_n 0, 13, 0, 0, 0, 0), (13, .iload_n 1, 14, 0, 0, 0, 0), (14, .invokestatic 64, 17, 63, 2, 0, 0), (17, .iload_n 1, 18, 0, 0, 0, 0), (18, .invokestatic 87, 21, 67, 1, 0, 0), (21, .iadd, 22, 0, 0, 0, 0), (22, .istore 4, 24, 0, 0, 0, 0), (24, .iload 4, 26, 0, 0, 0, 0), (26, .iconst 1, 27, 0, 0, 0, 1), (27, .iload_n 3, 28, 0, 0, 0, 0), (28, .ishl, 29, 0, 0, 0, 0), (29, .invokestatic 15, 32, 16, 2, 0, 0), (32, .ifCond .ne 5, 35, 37, 0, 0, 0), (35, .iconst 1, 36, 0, 0, 0, 1), (36, .ireturn, 37, 0, 0, 0, 0), (37, .aload_n 2, 38, 0, 0, 0, 0), (38, .iload 4, 40, 0, 0, 0, 0), (40, .iconst 1, 41, 0, 0, 0, 1), (41, .iload_n 3, 42, 0, 0, 0, 0), (42, .ishl, 43, 0, 0, 0, 0), (43, .aload_n 0, 44, 0, 0, 0, 0), (44, .iload_n 1, 45, 0, 0, 0, 0), (45, .invokestatic 70, 48, 64, 2, 0, 0), (48, .invokevirtual 90, 51, 20, 4, 0, 0), (51, .aload_n 0, 52, 0, 0, 0, 0), (52, .dup, 53, 0, 0, 0, 0), (53, .getfield 9, 56, 5, 6, 0, 0), (56, .iconst 4, 57, 0, 0, 0, 4), (57, .iadd, 58, 0, 0, 0, 0), (58, .putfield 9, 61, 5, 6, 0, 0), (61, .iconst (-1), 62, 0, 0, 0, -1), (62, .ireturn, 63, 0, 0, 0, 0)]
def cd_57 : List mEn := [(0, .iload_n 1, 1, 0, 0, 0, 0), (1, .invokestatic 61, 4, 61, 1, 0, 0), (4, .istore_n 2, 5, 0, 0, 0, 0), (5, .iload_n 2, 6, 0, 0, 0, 0), (6, .iconst 1, 7, 0, 0, 0, 1), (7, .if_icmp .eq 8, 10, 15, 0, 0, 0), (10, .iload_n 2, 11, 0, 0, 0, 0), (11, .iconst 5, 12, 0, 0, 0, 5), (12, .if_icmp .ne 7, 15, 19, 0, 0, 0), (15, .iconst 1, 16, 0, 0, 0, 1), (16, .goto 4, 19, 20, 0, 0, 0), (19, .iconst 0, 20, 0, 0, 0, 0), (20, .istore_n 3, 21, 0, 0, 0, 0), (21, .iload_n 2, 22, 0, 0, 0, 0), (22, .iconst 5, 23, 0, 0, 0, 5), (23, .if_icmp .ne 16, 26, 39, 0, 0, 0), (26, .iload_n 1, 27, 0, 0, 0, 0), (27, .invokestatic 94, 30, 62, 1, 0, 0), (30, .bipush 32, 32, 0, 0, 0, 32), (32, .if_icmp .ne 7, 35, 39, 0, 0, 0), (35, .iconst 1, 36, 0, 0, 0, 1), (36, .goto 4, 39, 40, 0, 0, 0), (39, .iconst 0, 40, 0, 0, 0, 0), (40, .istore 4, 42, 0, 0, 0, 0), (42, .iload_n 3, 43, 0, 0, 0, 0), (43, .ifCond .eq 17, 46, 60, 0, 0, 0), (46, .iload_n 1, 47, 0, 0, 0, 0), (47, .invokestatic 94, 50, 62, 1, 0, 0), (50, .ifCond .eq 10, 53, 60, 0, 0, 0), (53, .iload 4, 55, 0, 0, 0, 0), (55, .ifCond .ne 5, 58, 60, 0, 0, 0), (58, .iconst 0, 59, 0, 0, 0, 0), (59, .ireturn, 60, 0, 0, 0, 0), (60, .aload_n 0, 61, 0, 0, 0, 0), (61, .iload_n 1, 62, 0, 0, 0, 0), (62, .iload_n 2, 63, 0, 0, 0, 0), (63, .iload 4, 65, 0, 0, 0, 0), (65, .aload_n 0, 66, 0, 0, 0, 0), (66, .iload_n 1, 67, 0, 0, 0, 0), (67, .invokestatic 64, 70, 63, 2, 0, 0), (70, .iload_n 1, 71, 0, 0, 0, 0), (71, .invokestatic 67, 74, 65, 1, 0, 0), (74, .invokestatic 97, 77, 59, 4, 0, 0), (77, .aload_n 0, 78, 0, 0, 0, 0), (78, .getfield 9, 81, 5, 6, 0, 0), (81, .iconst 4, 82, 0, 0, 0, 4), (82, .iadd, 83, 0, 0, 0, 0), (83, .invokestatic 30, 86, 51, 4, 0, 0), (86, .ireturn, 87, 0, 0, 0, 0)]
def cd_58 : List mEn := [(0, .iload_n 1, 1, 0, 0, 0, 0), (1, .invokestatic 61, 4, 61, 1, 0, 0), (4, .istore_n 2, 5, 0, 0, 0, 0), (5, .iload_n 2, 6, 0, 0, 0, 0), (6, .ifCond .eq 8, 9, 14, 0, 0, 0), (9, .iload_n 2, 10, 0, 0, 0, 0), (10, .iconst 5, 11, 0, 0, 0, 5), (11, .if_icmp .ne 16, 14, 27, 0, 0, 0), (14, .iload_n 1, 15, 0, 0, 0, 0), (15, .invokestatic 94, 18, 62, 1, 0, 0), (18, .bipush 32, 20, 0, 0, 0, 32), (20, .if_icmp .ne 7, 23, 27, 0, 0, 0), (23, .iconst 1, 24, 0, 0, 0, 1), (24, .goto 4, 27, 28, 0, 0, 0), (27, .iconst 0, 28, 0, 0, 0, 0), (28, .istore_n 3, 29, 0, 0, 0, 0), (29, .iload_n 1, 30, 0, 0, 0, 0), (30, .invokestatic 94, 33, 62, 1, 0, 0), (33, .ifCond .eq 9, 36, 42, 0, 0, 0), (36, .iload_n 3, 37, 0, 0, 0, 0), (37, .ifCond .ne 5, 40, 42, 0, 0, 0), (40, .iconst 0, 41, 0, 0, 0, 0), (41, .ireturn, 42, 0, 0, 0, 0), (42, .aload_n 0, 43, 0, 0, 0, 0), (43, .iload_n 1, 44, 0, 0, 0, 0), (44, .iload_n 2, 45, 0, 0, 0, 0), (45, .iload_n 3, 46, 0, 0, 0, 0), (46, .aload_n 0, 47, 0, 0, 0, 0), (47, .iload_n 1, 48, 0, 0, 0, 0), (48, .invokestatic 64, 51, 63, 2, 0, 0), (51, .aload_n 0, 52, 0, 0, 0, 0), (52, .iload_n 1, 53, 0, 0, 0, 0), (53, .invokestatic 70, 56, 64, 2, 0, 0), (56, .invokestatic 97, 59, 59, 4, 0, 0), (59, .aload_n 0, 60, 0, 0, 0, 0), (60, .getfield 9, 63, 5, 6, 0, 0), (63, .iconst 4, 64, 0, 0, 0, 4), (64, .iadd, 65, 0, 0, 0, 0), (65, .invokestatic 30, 68, 51, 4, 0, 0), (68, .ireturn, 69, 0, 0, 0, 0)]
def cd_59 : List mEn := [(0, .iload_n 0, 1, 0, 0, 0, 0), (1, .tableswitch 108 0 6 #[43, 57, 61, 72, 86, 90, 104], 44, 109, 7, 0, 0), (44, .iload_n 1, 45, 0, 0, 0, 0), (45, .ifCond .eq 9, 48, 54, 0, 0, 0), (48, .iload_n 2, 49, 0, 0, 0, 0), (49, .iload_n 3, 50, 0, 0, 0, 0), (50, .isub, 51, 0, 0, 0, 0), (51, .goto 6, 54, 57, 0, 0, 0), (54, .iload_n 2, 55, 0, 0, 0, 0), (55, .iload_n 3, 56, 0, 0, 0, 0), (56, .iadd, 57, 0, 0, 0, 0), (57, .ireturn, 58, 0, 0, 0, 0), (58, .iload_n 2, 59, 0, 0, 0, 0), (59, .iload_n 3, 60, 0, 0, 0, 0), (60, .ishl, 61, 0, 0, 0, 0), (61, .ireturn, 62, 0, 0, 0, 0), (62, .iload_n 2, 63, 0, 0, 0, 0), (63, .iload_n 3, 64, 0, 0, 0, 0), (64, .if_icmp .ge 7, 67, 71, 0, 0, 0), (67, .iconst 1, 68, 0, 0, 0, 1), (68, .goto 4, 71, 72, 0, 0, 0), (71, .iconst 0, 72, 0, 0, 0, 0), (72, .ireturn, 73, 0, 0, 0, 0), (73, .iload_n 2, 74, 0, 0, 0, 0), (74, .iload_n 3, 75, 0, 0, 0, 0), (75, .invokestatic 73, 78, 60, 2, 0, 0), (78, .ifCond .eq 7, 81, 85, 0, 0, 0), (81, .iconst 1, 82, 0, 0, 0, 1), (82, .goto 4, 85, 86, 0, 0, 0), (85, .iconst 0, 86, 0, 0, 0, 0), (86, .ireturn, 87, 0, 0, 0, 0), (87, .iload_n 2, 88, 0, 0, 0, 0), (88, .iload_n 3, 89, 0, 0, 0, 0), (89, .ixor, 90, 0, 0, 0, 0), (90, .ireturn, 91, 0, 0, 0, 0), (91, .iload_n 1, 92, 0, 0, 0, 0), (92, .ifCond .eq 9, 95, 101, 0, 0, 0), (95, .iload_n 2, 96, 0, 0, 0, 0), (96, .iload_n 3, 97, 0, 0, 0, 0), (97, .ishr, 98, 0, 0, 0, 0), (98, .goto 6, 101, 104, 0, 0, 0), (101, .iload_n 2, 102, 0, 0, 0, 0), (102, .iload_n 3, 103, 0, 0, 0, 0), (103, .iushr, 104, 0, 0, 0, 0), (104, .ireturn, 105, 0, 0, 0, 0), (105, .iload_n 2, 106, 0, 0, 0, 0), (106, .iload_n 3, 107, 0, 0, 0, 0), (107, .ior, 108, 0, 0, 0, 0), (108, .ireturn, 109, 0, 0, 0, 0), (109, .iload_n 2, 110, 0, 0, 0, 0), (110, .iload_n 3, 111, 0, 0, 0, 0), (111, .iand, 112, 0, 0, 0, 0), (112, .ireturn, 113, 0, 0, 0, 0)]
def cd_60 : List mEn := [(0, .iload_n 0, 1, 0, 0, 0, 0), (1, .ldc 101, 3, 0, 0, 0, -2147483648), (3, .ixor, 4, 0, 0, 0, 0), (4, .iload_n 1, 5, 0, 0, 0, 0), (5, .ldc 101, 7, 0, 0, 0, -2147483648), (7, .ixor, 8, 0, 0, 0, 0), (8, .if_icmp .ge 7, 11, 15, 0, 0, 0), (11, .iconst 1, 12, 0, 0, 0, 1), (12, .goto 4, 15, 16, 0, 0, 0), (15, .iconst 0, 16, 0, 0, 0, 0), (16, .ireturn, 17, 0, 0, 2, 0)]
def cd_61 : List mEn := [(0, .iload_n 0, 1, 0, 0, 0, 0), (1, .bipush 12, 3, 0, 0, 0, 12), (3, .ishr, 4, 0, 0, 0, 0), (4, .bipush 7, 6, 0, 0, 0, 7), (6, .iand, 7, 0, 0, 0, 0), (7, .ireturn, 8, 0, 0, 0, 0)]
def cd_62 : List mEn := [(0, .iload_n 0, 1, 0, 0, 0, 0), (1, .bipush 25, 3, 0, 0, 0, 25), (3, .iushr, 4, 0, 0, 0, 0), (4, .ireturn, 5, 0, 0, 0, 0)]
def cd_63 : List mEn := [(0, .aload_n 0, 1, 0, 0, 0, 0), (1, .iload_n 1, 2, 0, 0, 0, 0), (2, .bipush 15, 4, 0, 0, 0, 15), (4, .ishr, 5, 0, 0, 0, 0), (5, .bipush 31, 7, 0, 0, 0, 31), (7, .iand, 8, 0, 0, 0, 0), (8, .invokevirtual 102, 11, 43, 2, 0, 0), (11, .ireturn, 12, 0, 0, 0, 0)]
def cd_64 : List mEn := [(0, .aload_n 0, 1, 0, 0, 0, 0), (1, .iload_n 1, 2, 0, 0, 0, 0), (2, .bipush 20, 4, 0, 0, 0, 20), (4, .ishr, 5, 0, 0, 0, 0), (5, .bipush 31, 7, 0, 0, 0, 31), (7, .iand, 8, 0, 0, 0, 0), (8, .invokevirtual 102, 11, 43, 2, 0, 0), (11, .ireturn, 12, 0, 0, 0, 0)]
def cd_65 : List mEn := [(0, .iload_n 0, 1, 0, 0, 0, 0), (1, .bipush 20, 3, 0, 0, 0, 20), (3, .ishr, 4, 0, 0, 0, 0), (4, .ireturn, 5, 0, 0, 0, 0)]
def cd_66 : List mEn := [(0, .iload_n 0, 1, 0, 0, 0, 0), (1, .sipush (-4096), 4, 0, 0, 0, -4096), (4, .iand, 5, 0, 0, 0, 0), (5, .ireturn, 6, 0, 0, 0, 0)]
def cd_67 : List mEn := [(0, .iload_n 0, 1, 0, 0, 0, 0), (1, .bipush 25, 3, 0, 0, 0, 25), (3, .ishr, 4, 0, 0, 0, 0), (4, .iconst 5, 5, 0, 0, 0, 5), (5, .ishl, 6, 0, 0, 0, 0), (6, .iload_n 0, 7, 0, 0, 0, 0), (7, .bipush 7, 9, 0, 0, 0, 7), (9, .ishr, 10, 0, 0, 0, 0), (10, .bipush 31, 12, 0, 0, 0, 31), (12, .iand, 13, 0, 0, 0, 0), (13, .ior, 14, 0, 0, 0, 0), (14, .ireturn, 15, 0, 0, 0, 0)]
def cd_68 : List mEn := [(0, .iload_n 0, 1, 0, 0, 0, 0), (1, .bipush 31, 3, 0, 0, 0, 31), (3, .ishr, 4, 0, 0, 0, 0), (4, .bipush 20, 6, 0, 0, 0, 20), (6, .ishl, 7, 0, 0, 0, 0), (7, .iload_n 0, 8, 0, 0, 0, 0), (8, .bipush 12, 10, 0, 0, 0, 12), (10, .ishr, 11, 0, 0, 0, 0), (11, .sipush 255, 14, 0, 0, 0, 255), (14, .iand, 15, 0, 0, 0, 0), (15, .bipush 12, 17, 0, 0, 0, 12), (17, .ishl, 18, 0, 0, 0, 0), (18, .ior, 19, 0, 0, 0, 0), (19, .iload_n 0, 20, 0, 0, 0, 0), (20, .bipush 20, 22, 0, 0, 0, 20), (22, .ishr, 23, 0, 0, 0, 0), (23, .iconst 1, 24, 0, 0, 0, 1), (24, .iand, 25, 0, 0, 0, 0), (25, .bipush 11, 27, 0, 0, 0, 11), (27, .ishl, 28, 0, 0, 0, 0), (28, .ior, 29, 0, 0, 0, 0), (29, .iload_n 0, 30, 0, 0, 0, 0), (30, .bipush 21, 32, 0, 0, 0, 21), (32, .ishr, 33, 0, 0, 0, 0), (33, .sipush 1023, 36, 0, 0, 0, 1023), (36, .iand, 37, 0, 0, 0, 0), (37, .iconst 1, 38, 0, 0, 0, 1), (38, .ishl, 39, 0, 0, 0, 0), (39, .ior, 40, 0, 0, 0, 0), (40, .ireturn, 41, 0, 0, 0, 0)]
def cd_69 : List mEn := [(0, .iload_n 0, 1, 0, 0, 0, 0), (1, .bipush 31, 3, 0, 0, 0, 31), (3, .ishr, 4, 0, 0, 0, 0), (4, .bipush 12, 6, 0, 0, 0, 12), (6, .ishl, 7, 0, 0, 0, 0), (7, .iload_n 0, 8, 0, 0, 0, 0), (8, .bipush 7, 10, 0, 0, 0, 7), (10, .ishr, 11, 0, 0, 0, 0), (11, .iconst 1, 12, 0, 0, 0, 1), (12, .iand, 13, 0, 0, 0, 0), (13, .bipush 11, 15, 0, 0, 0, 11), (15, .ishl, 16, 0, 0, 0, 0), (16, .ior, 17, 0, 0, 0, 0), (17, .iload_n 0, 18, 0, 0, 0, 0), (18, .bipush 25, 20, 0, 0, 0, 25), (20, .ishr, 21, 0, 0, 0, 0), (21, .bipush 63, 23, 0, 0, 0, 63), (23, .iand, 24, 0, 0, 0, 0), (24, .iconst 5, 25, 0, 0, 0, 5), (25, .ishl, 26, 0, 0, 0, 0), (26, .ior, 27, 0, 0, 0, 0), (27, .iload_n 0, 28, 0, 0, 0, 0), (28, .bipush 8, 30, 0, 0, 0, 8), (30, .ishr, 31, 0, 0, 0, 0), (31, .bipush 15, 33, 0, 0, 0, 15), (33, .iand, 34, 0, 0, 0, 0), (34, .iconst 1, 35, 0, 0, 0, 1), (35, .ishl, 36, 0, 0, 0, 0), (36, .ior, 37, 0, 0, 0, 0), (37, .ireturn, 38, 0, 0, 0, 0)]
def cd_70 : List mEn := [(0, .aload_n 0, 1, 0, 0, 0, 0), (1, .invokespecial 1, 4, 0, 1, 0, 0), (4, .aload_n 0, 5, 0, 0, 0, 0), (5, .iconst 4, 6, 0, 0, 0, 4), (6, .anewarray 9, 9, 20, 0, 0, 0), (9, .putfield 11, 12, 6, 0, 1, 0), (12, .aload_n 0, 13, 0, 0, 0, 0), (13, .bipush 8, 15, 0, 0, 0, 8), (15, .anewarray 15, 18, 21, 0, 0, 0), (18, .putfield 17, 21, 6, 1, 1, 0), (21, .aload_n 0, 22, 0, 0, 0, 0), (22, .new 21, 25, 2, 0, 0, 0), (25, .dup, 26, 0, 0, 0, 0), (26, .invokespecial 23, 29, 12, 1, 0, 0), (29, .putfield 24, 32, 6, 2, 1, 0), (32, .aload_n 0, 33, 0, 0, 0, 0), (33, .new 28, 36, 1, 0, 0, 0), (36, .dup, 37, 0, 0, 0, 0), (37, .invokespecial 30, 40, 9, 1, 0, 0), (40, .putfield 31, 43, 6, 3, 1, 0), (43, .iconst 0, 44, 0, 0, 0, 0), (44, .istore_n 1, 45, 0, 0, 0, 0), (45, .iload_n 1, 46, 0, 0, 0, 0), (46, .iconst 4, 47, 0, 0, 0, 4), (47, .if_icmp .ge 23, 50, 70, 0, 0, 0), (50, .aload_n 0, 51, 0, 0, 0, 0), (51, .getfield 11, 54, 6, 0, 1, 0), (54, .iload_n 1, 55, 0, 0, 0, 0), (55, .new 9, 58, 4, 0, 0, 0), (58, .dup, 59, 0, 0, 0, 0), (59, .iload_n 1, 60, 0, 0, 0, 0), (60, .invokespecial 35, 63, 23, 2, 0, 0), (63, .aastore, 64, 0, 0, 0, 0), (64, .iinc 1 1, 67, 0, 0, 0, 1), (67, .goto (-22), 70, 45, 0, 0, 0), (70, .iconst 0, 71, 0, 0, 0, 0), (71, .istore_n 1, 72, 0, 0, 0, 0), (72, .iload_n 1, 73, 0, 0, 0, 0), (73, .bipush 8, 75, 0, 0, 0, 8), (75, .if_icmp .ge 22, 78, 97, 0, 0, 0), (78, .aload_n 0, 79, 0, 0, 0, 0), (79, .getfield 17, 82, 6, 1, 1, 0), (82, .iload_n 1, 83, 0, 0, 0, 0), (83, .new 15, 86, 0, 0, 0, 0), (86, .dup, 87, 0, 0, 0, 0), (87, .invokespecial 38, 90, 2, 1, 0, 0), (90, .aastore, 91, 0, 0, 0, 0), (91, .iinc 1 1, 94, 0, 0, 0, 1), (94, .goto (-22), 97, 72, 0, 0, 0), (97, .return_, 98, 0, 0, 0, 0)]
def cd_71 : List mEn := [(0, .iload_n 1, 1, 0, 0, 0, 0), (1, .invokestatic 39, 4, 86, 1, 0, 0), (4, .ifCond .ne 13, 7, 17, 0, 0, 0), (7, .new 43, 10, 50, 0, 0, 0), (17, .iload_n 2, 18, 0, 0, 0, 0), (18, .iconst 1, 19, 0, 0, 0, 1), (19, .if_icmp .lt 9, 22, 28, 0, 0, 0), (22, .iload_n 2, 23, 0, 0, 0, 0), (23, .bipush 100, 25, 0, 0, 0, 100), (25, .if_icmp .le 13, 28, 38, 0, 0, 0), (28, .new 50, 31, 51, 0, 0, 0), (38, .aload_n 0, 39, 0, 0, 0, 0), (39, .getfield 55, 42, 6, 7, 2, 0), (42, .ifCond .ne 15, 45, 57, 0, 0, 0), (45, .aload_n 0, 46, 0, 0, 0, 0), (46, .getfield 24, 49, 6, 2, 1, 0), (49, .iload_n 1, 50, 0, 0, 0, 0), (50, .iload_n 2, 51, 0, 0, 0, 0), (51, .invokevirtual 59, 54, 12, 3, 0, 0), (54, .ifCond .ne 13, 57, 67, 0, 0, 0), (57, .new 63, 60, 52, 0, 0, 0), (67, .return_, 68, 0, 0, 0, 0)]
def cd_72 : List mEn := [(0, .aload_n 0, 1, 0, 0, 0, 0), (1, .iload_n 1, 2, 0, 0, 0, 0), (2, .invokevirtual 68, 5, 89, 2, 0, 0), (5, .astore 6, 7, 0, 0, 0, 0), (7, .aload 6, 9, 0, 0, 0, 0), (9, .ifnonnull 13, 12, 22, 0, 0, 0), (12, .new 43, 15, 50, 0, 0, 0), (22, .iload_n 3, 23, 0, 0, 0, 0), (23, .invokestatic 72, 26, 87, 1, 0, 0), (26, .ifCond .eq 19, 29, 45, 0, 0, 0), (29, .iload 4, 31, 0, 0, 0, 0), (31, .invokestatic 75, 34, 88, 1, 0, 0), (34, .ifCond .eq 11, 37, 45, 0, 0, 0), (37, .iload 5, 39, 0, 0, 0, 0), (39, .invokestatic 75, 42, 88, 1, 0, 0), (42, .ifCond .ne 13, 45, 55, 0, 0, 0), (45, .new 50, 48, 51, 0, 0, 0), (55, .aload_n 0, 56, 0, 0, 0, 0), (56, .getfield 55, 59, 6, 7, 2, 0), (59, .ifCond .eq 7, 62, 66, 0, 0, 0), (62, .iconst (-1), 63, 0, 0, 0, -1), (63, .goto 14, 66, 77, 0, 0, 0), (66, .aload 6, 68, 0, 0, 0, 0), (68, .iload_n 2, 69, 0, 0, 0, 0), (69, .iload_n 3, 70, 0, 0, 0, 0), (70, .iload 4, 72, 0, 0, 0, 0), (72, .iload 5, 74, 0, 0, 0, 0), (74, .invokevirtual 80, 77, 23, 5, 0, 0), (77, .istore 7, 79, 0, 0, 0, 0), (79, .iload 7, 81, 0, 0, 0, 0), (81, .iconst (-1), 82, 0, 0, 0, -1), (82, .if_icmp .ne 13, 85, 95, 0, 0, 0), (85, .new 63, 88, 52, 0, 0, 0), (95, .iload 7, 97, 0, 0, 0, 0), (97, .ireturn, 98, 0, 0, 0, 0)]
def cd_73 : List mEn := [(0, .iload_n 2, 1, 0, 0, 0, 0), (1, .invokestatic 39, 4, 86, 1, 0, 0), (4, .ifCond .eq 10, 7, 14, 0, 0, 0), (7, .iload_n 3, 8, 0, 0, 0, 0), (8, .invokestatic 39, 11, 86, 1, 0, 0), (11, .ifCond .ne 13, 14, 24, 0, 0, 0), (14, .new 43, 17, 50, 0, 0, 0), (24, .iload_n 1, 25, 0, 0, 0, 0), (25, .ifCond .eq 19, 28, 44, 0, 0, 0), (28, .iload 4, 30, 0, 0, 0, 0), (30, .iconst 1, 31, 0, 0, 0, 1), (31, .if_icmp .lt 21, 34, 52, 0, 0, 0), (34, .iload 4, 36, 0, 0, 0, 0), (36, .bipush 8, 38, 0, 0, 0, 8), (38, .if_icmp .le 24, 41, 62, 0, 0, 0), (41, .goto 11, 44, 52, 0, 0, 0), (44, .iload 4, 46, 0, 0, 0, 0), (46, .invokestatic 75, 49, 88, 1, 0, 0), (49, .ifCond .ne 13, 52, 62, 0, 0, 0), (52, .new 50, 55, 51, 0, 0, 0), (62, .aload_n 0, 63, 0, 0, 0, 0), (63, .getfield 55, 66, 6, 7, 2, 0), (66, .ifCond .ne 12, 69, 78, 0, 0, 0), (69, .aload_n 0, 70, 0, 0, 0, 0), (70, .getfield 89, 73, 6, 4, 0, 0), (73, .bipush 8, 75, 0, 0, 0, 8), (75, .if_icmp .lt 13, 78, 88, 0, 0, 0), (78, .new 63, 81, 52, 0, 0, 0), (88, .aload_n 0, 89, 0, 0, 0, 0), (89, .getfield 17, 92, 6, 1, 1, 0), (92, .aload_n 0, 93, 0, 0, 0, 0), (93, .getfield 89, 96, 6, 4, 0, 0), (96, .aaload, 97, 0, 0, 0, 0), (97, .iload_n 1, 98, 0, 0, 0, 0), (98, .iload_n 2, 99, 0, 0, 0, 0), (99, .iload_n 3, 100, 0, 0, 0, 0), (100, .iload 4, 102, 0, 0, 0, 0), (102, .invokevirtual 95, 105, 2, 5, 0, 0), (105, .aload_n 0, 106, 0, 0, 0, 0), (106, .dup, 107, 0, 0, 0, 0), (107, .getfield 89, 110, 6, 4, 0, 0), (110, .iconst 1, 111, 0, 0, 0, 1), (111, .iadd, 112, 0, 0, 0, 0), (112, .putfield 89, 115, 6, 4, 0, 0), (115, .aload_n 0, 116, 0, 0, 0, 0), (116, .getfield 89, 119, 6, 4, 0, 0), (119, .iconst 1, 120, 0, 0, 0, 1), (120, .isub, 121, 0, 0, 0, 0), (121, .ireturn, 122, 0, 0, 0, 0)]
def cd_74 : List mEn := [(0, .aload_n 0, 1, 0, 0, 0, 0), (1, .iload_n 1, 2, 0, 0, 0, 0), (2, .invokevirtual 68, 5, 89, 2, 0, 0), (5, .astore 4, 7, 0, 0, 0, 0), (7, .aload 4, 9, 0, 0, 0, 0), (9, .ifnull 12, 12, 21, 0, 0, 0), (12, .iload_n 2, 13, 0, 0, 0, 0), (13, .ifCond .lt 8, 16, 21, 0, 0, 0), (16, .iload_n 2, 17, 0, 0, 0, 0), (17, .iconst 4, 18, 0, 0, 0, 4), (18, .if_icmp .lt 13, 21, 31, 0, 0, 0), (21, .new 43, 24, 50, 0, 0, 0), (31, .iload_n 3, 32, 0, 0, 0, 0), (32, .ifCond .lt 8, 35, 40, 0, 0, 0), (35, .iload_n 3, 36, 0, 0, 0, 0), (36, .iconst 4, 37, 0, 0, 0, 4), (37, .if_icmp .le 13, 40, 50, 0, 0, 0), (40, .new 50, 43, 51, 0, 0, 0), (50, .aload 4, 52, 0, 0, 0, 0), (52, .getfield 103, 55, 4, 4, 1, 0), (55, .iload_n 2, 56, 0, 0, 0, 0), (56, .iload_n 3, 57, 0, 0, 0, 0), (57, .iastore, 58, 0, 0, 0, 0), (58, .return_, 59, 0, 0, 0, 0)]
def cd_75 : List mEn := [(0, .aload_n 0, 1, 0, 0, 0, 0), (1, .iload_n 1, 2, 0, 0, 0, 0), (2, .invokevirtual 68, 5, 89, 2, 0, 0), (5, .astore 4, 7, 0, 0, 0, 0), (7, .aload 4, 9, 0, 0, 0, 0), (9, .ifnull 11, 12, 20, 0, 0, 0), (12, .iload_n 2, 13, 0, 0, 0, 0), (13, .iconst 4, 14, 0, 0, 0, 4), (14, .invokestatic 107, 17, 16, 2, 0, 0), (17, .ifCond .ne 13, 20, 30, 0, 0, 0), (20, .new 43, 23, 50, 0, 0, 0), (30, .aload 4, 32, 0, 0, 0, 0), (32, .getfield 114, 35, 4, 1, 1, 0), (35, .iload_n 2, 36, 0, 0, 0, 0), (36, .iload_n 3, 37, 0, 0, 0, 0), (37, .invokevirtual 118, 40, 18, 3, 0, 0), (40, .return_, 41, 0, 0, 0, 0)]
def cd_76 : List mEn := [(0, .aload_n 0, 1, 0, 0, 0, 0), (1, .getfield 55, 4, 6, 7, 2, 0), (4, .ifCond .ne 13, 7, 17, 0, 0, 0), (7, .aload_n 0, 8, 0, 0, 0, 0), (8, .getfield 24, 11, 6, 2, 1, 0), (11, .getfield 122, 14, 2, 2, 0, 0), (14, .ifCond .ne 13, 17, 27, 0, 0, 0), (17, .new 63, 20, 52, 0, 0, 0), (27, .aload_n 0, 28, 0, 0, 0, 0), (28, .iconst 1, 29, 0, 0, 0, 1), (29, .putfield 55, 32, 6, 7, 2, 0), (32, .iconst 0, 33, 0, 0, 0, 0), (33, .istore_n 1, 34, 0, 0, 0, 0), (34, .iload_n 1, 35, 0, 0, 0, 0), (35, .iconst 4, 36, 0, 0, 0, 4), (36, .if_icmp .ge 22, 39, 58, 0, 0, 0), (39, .aload_n 0, 40, 0, 0, 0, 0), (40, .getfield 11, 43, 6, 0, 1, 0), (43, .iload_n 1, 44, 0, 0, 0, 0), (44, .aaload, 45, 0, 0, 0, 0), (45, .aload_n 0, 46, 0, 0, 0, 0), (46, .getfield 127, 49, 6, 5, 0, 0), (49, .invokevirtual 130, 52, 28, 2, 0, 0), (52, .iinc 1 1, 55, 0, 0, 0, 1), (55, .goto (-21), 58, 34, 0, 0, 0), (58, .return_, 59, 0, 0, 0, 0)]
def cd_77 : List mEn := [(0, .aload_n 0, 1, 0, 0, 0, 0), (1, .getfield 55, 4, 6, 7, 2, 0), (4, .ifCond .ne 13, 7, 17, 0, 0, 0), (7, .new 63, 10, 52, 0, 0, 0), (17, .iload_n 1, 18, 0, 0, 0, 0), (18, .ifCond .lt 10, 21, 28, 0, 0, 0), (21, .iload_n 1, 22, 0, 0, 0, 0), (22, .sipush 500, 25, 0, 0, 0, 500), (25, .if_icmp .le 13, 28, 38, 0, 0, 0), (28, .new 50, 31, 51, 0, 0, 0), (38, .aload_n 0, 39, 0, 0, 0, 0), (39, .getfield 137, 42, 6, 6, 0, 0), (42, .istore_n 2, 43, 0, 0, 0, 0), (43, .iconst 0, 44, 0, 0, 0, 0), (44, .istore_n 3, 45, 0, 0, 0, 0), (45, .iload_n 3, 46, 0, 0, 0, 0), (46, .iload_n 1, 47, 0, 0, 0, 0), (47, .if_icmp .ge 58, 50, 105, 0, 0, 0), (50, .aload_n 0, 51, 0, 0, 0, 0), (51, .aload_n 0, 52, 0, 0, 0, 0), (52, .getfield 24, 55, 6, 2, 1, 0), (55, .invokevirtual 140, 58, 13, 1, 0, 0), (58, .invokevirtual 68, 61, 89, 2, 0, 0), (61, .astore 4, 63, 0, 0, 0, 0), (63, .aload 4, 65, 0, 0, 0, 0), (65, .ifnull 17, 68, 82, 0, 0, 0), (68, .aload 4, 70, 0, 0, 0, 0), (70, .getfield 144, 73, 4, 8, 2, 0), (73, .ifCond .ne 9, 76, 82, 0, 0, 0), (76, .aload_n 0, 77, 0, 0, 0, 0), (77, .aload 4, 79, 0, 0, 0, 0), (79, .invokevirtual 147, 82, 92, 2, 0, 0), (82, .aload_n 0, 83, 0, 0, 0, 0), (83, .dup, 84, 0, 0, 0, 0), (84, .getfield 127, 87, 6, 5, 0, 0), (87, .iconst 1, 88, 0, 0, 0, 1), (88, .iadd, 89, 0, 0, 0, 0), (89, .putfield 127, 92, 6, 5, 0, 0), (92, .aload_n 0, 93, 0, 0, 0, 0), (93, .getfield 24, 96, 6, 2, 1, 0), (96, .invokevirtual 151, 99, 14, 1, 0, 0), (99, .iinc 3 1, 102, 0, 0, 0, 1), (102, .goto (-57), 105, 45, 0, 0, 0), (105, .aload_n 0, 106, 0, 0, 0, 0), (106, .getfield 137, 109, 6, 6, 0, 0), (109, .iload_n 2, 110, 0, 0, 0, 0), (110, .isub, 111, 0, 0, 0, 0), (111, .ireturn, 112, 0, 0, 0, 0)]
def cd_78 : List mEn := [(0, .aload_n 0, 1, 0, 0, 0, 0), (1, .iload_n 1, 2, 0, 0, 0, 0), (2, .invokevirtual 68, 5, 89, 2, 0, 0), (5, .astore_n 3, 6, 0, 0, 0, 0), (6, .aload_n 3, 7, 0, 0, 0, 0), (7, .ifnonnull 7, 10, 14, 0, 0, 0), (10, .iconst 0, 11, 0, 0, 0, 0), (11, .goto 11, 14, 22, 0, 0, 0), (14, .aload_n 3, 15, 0, 0, 0, 0), (15, .getfield 114, 18, 4, 1, 1, 0), (18, .iload_n 2, 19, 0, 0, 0, 0), (19, .invokevirtual 154, 22, 17, 2, 0, 0), (22, .ireturn, 23, 0, 0, 0, 0)]
def cd_79 : List mEn := [(0, .aload_n 0, 1, 0, 0, 0, 0), (1, .iload_n 1, 2, 0, 0, 0, 0), (2, .iload_n 2, 3, 0, 0, 0, 0), (3, .invokevirtual 158, 6, 90, 3, 0, 0), (6, .astore 4, 8, 0, 0, 0, 0), (8, .aload 4, 10, 0, 0, 0, 0), (10, .ifnonnull 7, 13, 17, 0, 0, 0), (13, .iconst 0, 14, 0, 0, 0, 0), (14, .goto 9, 17, 23, 0, 0, 0), (17, .aload 4, 19, 0, 0, 0, 0), (19, .iload_n 3, 20, 0, 0, 0, 0), (20, .invokevirtual 162, 23, 43, 2, 0, 0), (23, .ireturn, 24, 0, 0, 0, 0)]
def cd_80 : List mEn := [(0, .aload_n 0, 1, 0, 0, 0, 0), (1, .iload_n 1, 2, 0, 0, 0, 0), (2, .iload_n 2, 3, 0, 0, 0, 0), (3, .invokevirtual 158, 6, 90, 3, 0, 0), (6, .astore 4, 8, 0, 0, 0, 0), (8, .aload 4, 10, 0, 0, 0, 0), (10, .ifnonnull 7, 13, 17, 0, 0, 0), (13, .iconst (-1), 14, 0, 0, 0, -1), (14, .goto 9, 17, 23, 0, 0, 0), (17, .aload 4, 19, 0, 0, 0, 0), (19, .iload_n 3, 20, 0, 0, 0, 0), (20, .invokevirtual 167, 23, 49, 2, 0, 0), (23, .ireturn, 24, 0, 0, 0, 0)]
def cd_81 : List mEn := [(0, .aload_n 0, 1, 0, 0, 0, 0), (1, .iload_n 1, 2, 0, 0, 0, 0), (2, .invokevirtual 68, 5, 89, 2, 0, 0), (5, .astore_n 3, 6, 0, 0, 0, 0), (6, .aload_n 3, 7, 0, 0, 0, 0), (7, .ifnonnull 7, 10, 14, 0, 0, 0), (10, .iconst (-1), 11, 0, 0, 0, -1), (11, .goto 8, 14, 19, 0, 0, 0), (14, .aload_n 3, 15, 0, 0, 0, 0), (15, .iload_n 2, 16, 0, 0, 0, 0), (16, .invokevirtual 170, 19, 26, 2, 0, 0), (19, .ireturn, 20, 0, 0, 0, 0)]
def cd_82 : List mEn := [(0, .aload_n 0, 1, 0, 0, 0, 0), (1, .iload_n 1, 2, 0, 0, 0, 0), (2, .invokevirtual 171, 5, 91, 2, 0, 0), (5, .astore_n 3, 6, 0, 0, 0, 0), (6, .aload_n 3, 7, 0, 0, 0, 0), (7, .ifnonnull 7, 10, 14, 0, 0, 0), (10, .iconst (-1), 11, 0, 0, 0, -1), (11, .goto 8, 14, 19, 0, 0, 0), (14, .aload_n 3, 15, 0, 0, 0, 0), (15, .iload_n 2, 16, 0, 0, 0, 0), (16, .invokevirtual 175, 19, 6, 2, 0, 0), (19, .ireturn, 20, 0, 0, 0, 0)]
def cd_83 : List mEn := [(0, .aload_n 0, 1, 0, 0, 0, 0), (1, .iload_n 1, 2, 0, 0, 0, 0), (2, .invokevirtual 171, 5, 91, 2, 0, 0), (5, .astore_n 3, 6, 0, 0, 0, 0), (6, .aload_n 3, 7, 0, 0, 0, 0), (7, .ifnonnull 7, 10, 14, 0, 0, 0), (10, .iconst 0, 11, 0, 0, 0, 0), (11, .goto 8, 14, 19, 0, 0, 0), (14, .aload_n 3, 15, 0, 0, 0, 0), (15, .iload_n 2, 16, 0, 0, 0, 0), (16, .invokevirtual 176, 19, 5, 2, 0, 0), (19, .ireturn, 20, 0, 0, 0, 0)]
def cd_84 : List mEn := [(0, .aload_n 0, 1, 0, 0, 0, 0), (1, .getfield 31, 4, 6, 3, 1, 0), (4, .iload_n 1, 5, 0, 0, 0, 0), (5, .iload_n 2, 6, 0, 0, 0, 0), (6, .invokevirtual 179, 9, 10, 3, 0, 0), (9, .ireturn, 10, 0, 0, 0, 0)]
def cd_85 : List mEn := [(0, .iload_n 1, 1, 0, 0, 0, 0), (1, .tableswitch 68 0 3 #[31, 36, 44, 49], 32, 69, 8, 0, 0), (32, .aload_n 0, 33, 0, 0, 0, 0), (33, .getfield 127, 36, 6, 5, 0, 0), (36, .ireturn, 37, 0, 0, 0, 0), (37, .aload_n 0, 38, 0, 0, 0, 0), (38, .getfield 31, 41, 6, 3, 1, 0), (41, .getfield 182, 44, 1, 4, 0, 0), (44, .ireturn, 45, 0, 0, 0, 0), (45, .aload_n 0, 46, 0, 0, 0, 0), (46, .getfield 137, 49, 6, 6, 0, 0), (49, .ireturn, 50, 0, 0, 0, 0), (50, .aload_n 0, 51, 0, 0, 0, 0), (51, .getfield 55, 54, 6, 7, 2, 0), (54, .ifCond .eq 13, 57, 67, 0, 0, 0), (57, .aload_n 0, 58, 0, 0, 0, 0), (58, .getfield 24, 61, 6, 2, 1, 0), (61, .invokevirtual 140, 64, 13, 1, 0, 0), (64, .goto 4, 67, 68, 0, 0, 0), (67, .iconst (-1), 68, 0, 0, 0, -1), (68, .ireturn, 69, 0, 0, 0, 0), (69, .iconst (-1), 70, 0, 0, 0, -1), (70, .ireturn, 71, 0, 0, 0, 0)]
def cd_86 : List mEn := [(0, .iload_n 0, 1, 0, 0, 0, 0), (1, .ifCond .lt 12, 4, 13, 0, 0, 0), (4, .iload_n 0, 5, 0, 0, 0, 0), (5, .iconst 4, 6, 0, 0, 0, 4), (6, .if_icmp .ge 7, 9, 13, 0, 0, 0), (9, .iconst 1, 10, 0, 0, 0, 1), (10, .goto 4, 13, 14, 0, 0, 0), (13, .iconst 0, 14, 0, 0, 0, 0), (14, .ireturn, 15, 0, 0, 2, 0)]
def cd_87 : List mEn := [(0, .iload_n 0, 1, 0, 0, 0, 0), (1, .ifCond .lt 13, 4, 14, 0, 0, 0), (4, .iload_n 0, 5, 0, 0, 0, 0), (5, .bipush 15, 7, 0, 0, 0, 15), (7, .if_icmp .gt 7, 10, 14, 0, 0, 0), (10, .iconst 1, 11, 0, 0, 0, 1), (11, .goto 4, 14, 15, 0, 0, 0), (14, .iconst 0, 15, 0, 0, 0, 0), (15, .ireturn, 16, 0, 0, 2, 0)]
def cd_88 : List mEn := [(0, .iload_n 0, 1, 0, 0, 0, 0), (1, .ifCond .lt 13, 4, 14, 0, 0, 0), (4, .iload_n 0, 5, 0, 0, 0, 0), (5, .ldc 185, 7, 0, 0, 0, 100000), (7, .if_icmp .gt 7, 10, 14, 0, 0, 0), (10, .iconst 1, 11, 0, 0, 0, 1), (11, .goto 4, 14, 15, 0, 0, 0), (14, .iconst 0, 15, 0, 0, 0, 0), (15, .ireturn, 16, 0, 0, 2, 0)]
def cd_89 : List mEn := [(0, .iload_n 1, 1, 0, 0, 0, 0), (1, .invokestatic 39, 4, 86, 1, 0, 0), (4, .ifCond .eq 12, 7, 16, 0, 0, 0), (7, .aload_n 0, 8, 0, 0, 0, 0), (8, .getfield 11, 11, 6, 0, 1, 0), (11, .iload_n 1, 12, 0, 0, 0, 0), (12, .aaload, 13, 0, 0, 0, 0), (13, .goto 4, 16, 17, 0, 0, 0), (16, .aconst_null, 17, 0, 0, 0, 0), (17, .areturn, 18, 0, 0, 0, 0)]
def cd_90 : List mEn := [(0, .aload_n 0, 1, 0, 0, 0, 0), (1, .iload_n 1, 2, 0, 0, 0, 0), (2, .invokevirtual 68, 5, 89, 2, 0, 0), (5, .astore_n 3, 6, 0, 0, 0, 0), (6, .aload_n 3, 7, 0, 0, 0, 0), (7, .ifnonnull 7, 10, 14, 0, 0, 0), (10, .aconst_null, 11, 0, 0, 0, 0), (11, .goto 8, 14, 19, 0, 0, 0), (14, .aload_n 3, 15, 0, 0, 0, 0), (15, .iload_n 2, 16, 0, 0, 0, 0), (16, .invokevirtual 186, 19, 24, 2, 0, 0), (19, .areturn, 20, 0, 0, 0, 0)]
def cd_91 : List mEn := [(0, .iload_n 1, 1, 0, 0, 0, 0), (1, .ifCond .lt 20, 4, 21, 0, 0, 0), (4, .iload_n 1, 5, 0, 0, 0, 0), (5, .aload_n 0, 6, 0, 0, 0, 0), (6, .getfield 89, 9, 6, 4, 0, 0), (9, .if_icmp .ge 12, 12, 21, 0, 0, 0), (12, .aload_n 0, 13, 0, 0, 0, 0), (13, .getfield 17, 16, 6, 1, 1, 0), (16, .iload_n 1, 17, 0, 0, 0, 0), (17, .aaload, 18, 0, 0, 0, 0), (18, .goto 4, 21, 22, 0, 0, 0), (21, .aconst_null, 22, 0, 0, 0, 0), (22, .areturn, 23, 0, 0, 0, 0)]
def cd_92 : List mEn := [(0, .aload_n 1, 1, 0, 0, 0, 0), (1, .aload_n 0, 2, 0, 0, 0, 0), (2, .getfield 127, 5, 6, 5, 0, 0), (5, .invokevirtual 190, 8, 30, 2, 0, 0), (8, .aload_n 0, 9, 0, 0, 0, 0), (9, .aload_n 1, 10, 0, 0, 0, 0), (10, .invokevirtual 193, 13, 93, 2, 0, 0), (13, .ifCond .eq 4, 16, 17, 0, 0, 0), (16, .return_, 17, 0, 0, 0, 0), (17, .aload_n 1, 18, 0, 0, 0, 0), (18, .iconst 1, 19, 0, 0, 0, 1), (19, .iconst (-1), 20, 0, 0, 0, -1), (20, .invokevirtual 197, 23, 31, 3, 0, 0), (23, .astore_n 2, 24, 0, 0, 0, 0), (24, .aload_n 2, 25, 0, 0, 0, 0), (25, .ifnonnull 4, 28, 29, 0, 0, 0), (28, .return_, 29, 0, 0, 0, 0), (29, .aload_n 2, 30, 0, 0, 0, 0), (30, .dup, 31, 0, 0, 0, 0), (31, .getfield 200, 34, 5, 13, 0, 0), (34, .iconst 1, 35, 0, 0, 0, 1), (35, .iadd, 36, 0, 0, 0, 0), (36, .putfield 200, 39, 5, 13, 0, 0), (39, .aload_n 0, 40, 0, 0, 0, 0), (40, .dup, 41, 0, 0, 0, 0), (41, .getfield 137, 44, 6, 6, 0, 0), (44, .iconst 1, 45, 0, 0, 0, 1), (45, .iadd, 46, 0, 0, 0, 0), (46, .putfield 137, 49, 6, 6, 0, 0), (49, .aload_n 2, 50, 0, 0, 0, 0), (50, .aload_n 1, 51, 0, 0, 0, 0), (51, .getfield 114, 54, 4, 1, 1, 0), (54, .invokestatic 203, 57, 50, 2, 0, 0), (57, .istore_n 3, 58, 0, 0, 0, 0), (58, .iload_n 3, 59, 0, 0, 0, 0), (59, .bipush (-2), 61, 0, 0, 0, -2), (61, .if_icmp .ne 10, 64, 71, 0, 0, 0), (64, .aload_n 0, 65, 0, 0, 0, 0), (65, .aload_n 1, 66, 0, 0, 0, 0), (66, .aload_n 2, 67, 0, 0, 0, 0), (67, .invokevirtual 209, 70, 95, 3, 0, 0), (70, .istore_n 3, 71, 0, 0, 0, 0), (71, .iload_n 3, 72, 0, 0, 0, 0), (72, .iconst (-1), 73, 0, 0, 0, -1), (73, .if_icmp .eq 11, 76, 84, 0, 0, 0), (76, .aload_n 0, 77, 0, 0, 0, 0), (77, .aload_n 1, 78, 0, 0, 0, 0), (78, .aload_n 2, 79, 0, 0, 0, 0), (79, .iload_n 3, 80, 0, 0, 0, 0), (80, .invokevirtual 213, 83, 94, 4, 0, 0), (83, .pop, 84, 0, 0, 0, 0), (84, .return_, 85, 0, 0, 0, 0)]
def cd_93 : List mEn := [(0, .iconst 0, 1, 0, 0, 0, 0), (1, .istore_n 2, 2, 0, 0, 0, 0), (2, .iload_n 2, 3, 0, 0, 0, 0), (3, .aload_n 1, 4, 0, 0, 0, 0), (4, .getfield 217, 7, 4, 5, 0, 0), (7, .if_icmp .ge 44, 10, 51, 0, 0, 0), (10, .aload_n 1, 11, 0, 0, 0, 0), (11, .getfield 218, 14, 4, 2, 1, 0), (14, .iload_n 2, 15, 0, 0, 0, 0), (15, .aaload, 16, 0, 0, 0, 0), (16, .astore_n 3, 17, 0, 0, 0, 0), (17, .aload_n 3, 18, 0, 0, 0, 0), (18, .aload_n 0, 19, 0, 0, 0, 0), (19, .getfield 127, 22, 6, 5, 0, 0), (22, .invokevirtual 222, 25, 47, 2, 0, 0), (25, .ifCond .eq 20, 28, 45, 0, 0, 0), (28, .aload_n 3, 29, 0, 0, 0, 0), (29, .iconst (-1), 30, 0, 0, 0, -1), (30, .putfield 225, 33, 5, 8, 0, 0), (33, .aload_n 0, 34, 0, 0, 0, 0), (34, .aload_n 1, 35, 0, 0, 0, 0), (35, .aload_n 3, 36, 0, 0, 0, 0), (36, .iconst 2, 37, 0, 0, 0, 2), (37, .invokevirtual 213, 40, 94, 4, 0, 0), (40, .ifCond .eq 5, 43, 45, 0, 0, 0), (43, .iconst 1, 44, 0, 0, 0, 1), (44, .ireturn, 45, 0, 0, 2, 0), (45, .iinc 2 1, 48, 0, 0, 0, 1), (48, .goto (-46), 51, 2, 0, 0, 0), (51, .iconst 0, 52, 0, 0, 0, 0), (52, .ireturn, 53, 0, 0, 2, 0)]
def cd_94 : List mEn := [(0, .aload_n 0, 1, 0, 0, 0, 0), (1, .getfield 31, 4, 6, 3, 1, 0), (4, .aload_n 0, 5, 0, 0, 0, 0), (5, .getfield 127, 8, 6, 5, 0, 0), (8, .aload_n 1, 9, 0, 0, 0, 0), (9, .getfield 228, 12, 4, 0, 0, 0), (12, .aload_n 2, 13, 0, 0, 0, 0), (13, .getfield 231, 16, 5, 0, 0, 0), (16, .iload_n 3, 17, 0, 0, 0, 0), (17, .invokevirtual 232, 20, 9, 5, 0, 0), (20, .aload_n 1, 21, 0, 0, 0, 0), (21, .iload_n 3, 22, 0, 0, 0, 0), (22, .invokevirtual 236, 25, 25, 2, 0, 0), (25, .tableswitch 76 1 4 #[31, 38, 49, 69], 56, 101, 9, 0, 0), (56, .aload_n 1, 57, 0, 0, 0, 0), (57, .aload_n 2, 58, 0, 0, 0, 0), (58, .invokevirtual 239, 61, 29, 2, 0, 0), (61, .iconst 0, 62, 0, 0, 0, 0), (62, .ireturn, 63, 0, 0, 2, 0), (63, .aload_n 1, 64, 0, 0, 0, 0), (64, .aload_n 2, 65, 0, 0, 0, 0), (65, .aload_n 0, 66, 0, 0, 0, 0), (66, .getfield 127, 69, 6, 5, 0, 0), (69, .invokevirtual 243, 72, 27, 3, 0, 0), (72, .iconst 0, 73, 0, 0, 0, 0), (73, .ireturn, 74, 0, 0, 2, 0), (74, .aload_n 1, 75, 0, 0, 0, 0), (75, .aload_n 0, 76, 0, 0, 0, 0), (76, .getfield 127, 79, 6, 5, 0, 0), (79, .invokevirtual 130, 82, 28, 2, 0, 0), (82, .aload_n 1, 83, 0, 0, 0, 0), (83, .dup, 84, 0, 0, 0, 0), (84, .getfield 247, 87, 4, 7, 0, 0), (87, .iconst 1, 88, 0, 0, 0, 1), (88, .iadd, 89, 0, 0, 0, 0), (89, .putfield 247, 92, 4, 7, 0, 0), (92, .iconst 1, 93, 0, 0, 0, 1), (93, .ireturn, 94, 0, 0, 2, 0), (94, .aload_n 1, 95, 0, 0, 0, 0), (95, .iconst 1, 96, 0, 0, 0, 1), (96, .putfield 144, 99, 4, 8, 2, 0), (99, .iconst 1, 100, 0, 0, 0, 1), (100, .ireturn, 101, 0, 0, 2, 0), (101, .iload_n 3, 102, 0, 0, 0, 0), (102, .iconst 2, 103, 0, 0, 0, 2), (103, .if_icmp .eq 13, 106, 116, 0, 0, 0), (106, .aload_n 2, 107, 0, 0, 0, 0), (107, .dup, 108, 0, 0, 0, 0), (108, .getfield 250, 111, 5, 6, 0, 0), (111, .iconst 4, 112, 0, 0, 0, 4), (112, .iadd, 113, 0, 0, 0, 0), (113, .putfield 250, 116, 5, 6, 0, 0), (116, .iconst 0, 117, 0, 0, 0, 0), (117, .ireturn, 118, 0, 0, 2, 0)]
def cd_95 : List mEn := [(0, .aload_n 2, 1, 0, 0, 0, 0), (1, .bipush 17, 3, 0, 0, 0, 17), (3, .invokevirtual 162, 6, 43, 2, 0, 0), (6, .istore_n 3, 7, 0, 0, 0, 0), (7, .iload_n 3, 8, 0, 0, 0, 0), (8, .bipush 10, 10, 0, 0, 0, 10), (10, .if_icmp .ne 5, 13, 15, 0, 0, 0), (13, .iconst 3, 14, 0, 0, 0, 3), (14, .ireturn, 15, 0, 0, 0, 0), (15, .iload_n 3, 16, 0, 0, 0, 0), (16, .ifCond .lt 9, 19, 25, 0, 0, 0), (19, .iload_n 3, 20, 0, 0, 0, 0), (20, .bipush 10, 22, 0, 0, 0, 10), (22, .if_icmp .le 5, 25, 27, 0, 0, 0), (25, .iconst 0, 26, 0, 0, 0, 0), (26, .ireturn, 27, 0, 0, 0, 0), (27, .aload_n 2, 28, 0, 0, 0, 0), (28, .dup, 29, 0, 0, 0, 0), (29, .getfield 250, 32, 5, 6, 0, 0), (32, .iconst 4, 33, 0, 0, 0, 4), (33, .iadd, 34, 0, 0, 0, 0), (34, .putfield 250, 37, 5, 6, 0, 0), (37, .iload_n 3, 38, 0, 0, 0, 0), (38, .ifCond .ne 11, 41, 49, 0, 0, 0), (41, .aload_n 1, 42, 0, 0, 0, 0), (42, .aload_n 2, 43, 0, 0, 0, 0), (43, .invokevirtual 239, 46, 29, 2, 0, 0), (46, .goto 16, 49, 62, 0, 0, 0), (49, .aload_n 2, 50, 0, 0, 0, 0), (50, .bipush 10, 52, 0, 0, 0, 10), (52, .aload_n 0, 53, 0, 0, 0, 0), (53, .iload_n 3, 54, 0, 0, 0, 0), (54, .aload_n 1, 55, 0, 0, 0, 0), (55, .aload_n 2, 56, 0, 0, 0, 0), (56, .invokevirtual 253, 59, 96, 4, 0, 0), (59, .invokevirtual 257, 62, 44, 3, 0, 0), (62, .iconst (-1), 63, 0, 0, 0, -1), (63, .ireturn, 64, 0, 0, 0, 0)]
def cd_96 : List mEn := [(0, .aload_n 3, 1, 0, 0, 0, 0), (1, .bipush 10, 3, 0, 0, 0, 10), (3, .invokevirtual 162, 6, 43, 2, 0, 0), (6, .istore 4, 8, 0, 0, 0, 0), (8, .aload_n 3, 9, 0, 0, 0, 0), (9, .bipush 11, 11, 0, 0, 0, 11), (11, .invokevirtual 162, 14, 43, 2, 0, 0), (14, .istore 5, 16, 0, 0, 0, 0), (16, .iload_n 1, 17, 0, 0, 0, 0), (17, .tableswitch 115 1 8 #[47, 53, 65, 76, 85, 90, 98, 105], 64, 132, 10, 0, 0), (64, .aload_n 2, 65, 0, 0, 0, 0), (65, .aload_n 3, 66, 0, 0, 0, 0), (66, .invokevirtual 260, 69, 32, 2, 0, 0), (69, .ireturn, 70, 0, 0, 0, 0), (70, .aload_n 2, 71, 0, 0, 0, 0), (71, .aload_n 3, 72, 0, 0, 0, 0), (72, .iload 4, 74, 0, 0, 0, 0), (74, .aload_n 0, 75, 0, 0, 0, 0), (75, .getfield 127, 78, 6, 5, 0, 0), (78, .invokevirtual 264, 81, 33, 4, 0, 0), (81, .ireturn, 82, 0, 0, 0, 0), (82, .aload_n 2, 83, 0, 0, 0, 0), (83, .iload 4, 85, 0, 0, 0, 0), (85, .aload_n 0, 86, 0, 0, 0, 0), (86, .getfield 127, 89, 6, 5, 0, 0), (89, .invokevirtual 268, 92, 34, 3, 0, 0), (92, .ireturn, 93, 0, 0, 0, 0), (93, .aload_n 2, 94, 0, 0, 0, 0), (94, .iload 4, 96, 0, 0, 0, 0), (96, .iload 5, 98, 0, 0, 0, 0), (98, .invokevirtual 271, 101, 35, 3, 0, 0), (101, .ireturn, 102, 0, 0, 0, 0), (102, .aload_n 0, 103, 0, 0, 0, 0), (103, .getfield 127, 106, 6, 5, 0, 0), (106, .ireturn, 107, 0, 0, 0, 0), (107, .aload_n 2, 108, 0, 0, 0, 0), (108, .aload_n 3, 109, 0, 0, 0, 0), (109, .iload 4, 111, 0, 0, 0, 0), (111, .invokevirtual 274, 114, 36, 3, 0, 0), (114, .ireturn, 115, 0, 0, 0, 0), (115, .aload_n 2, 116, 0, 0, 0, 0), (116, .iload 4, 118, 0, 0, 0, 0), (118, .invokevirtual 278, 121, 37, 2, 0, 0), (121, .ireturn, 122, 0, 0, 0, 0), (122, .aload_n 0, 123, 0, 0, 0, 0), (123, .aload_n 2, 124, 0, 0, 0, 0), (124, .iload 4, 126, 0, 0, 0, 0), (126, .iload 5, 128, 0, 0, 0, 0), (128, .invokevirtual 281, 131, 97, 4, 0, 0), (131, .ireturn, 132, 0, 0, 0, 0), (132, .aload_n 0, 133, 0, 0, 0, 0), (133, .aload_n 2, 134, 0, 0, 0, 0), (134, .iload 4, 136, 0, 0, 0, 0), (136, .aload_n 3, 137, 0, 0, 0, 0), (137, .invokevirtual 285, 140, 98, 4, 0, 0), (140, .ireturn, 141, 0, 0, 0, 0)]
def cd_97 : List mEn := [(0, .aload_n 0, 1, 0, 0, 0, 0), (1, .iload_n 2, 2, 0, 0, 0, 0), (2, .invokevirtual 171, 5, 91, 2, 0, 0), (5, .astore 4, 7, 0, 0, 0, 0), (7, .aload 4, 9, 0, 0, 0, 0), (9, .ifnull 15, 12, 24, 0, 0, 0), (12, .aload 4, 14, 0, 0, 0, 0), (14, .getfield 289, 17, 0, 2, 0, 0), (17, .aload_n 1, 18, 0, 0, 0, 0), (18, .getfield 228, 21, 4, 0, 0, 0), (21, .if_icmp .eq 5, 24, 26, 0, 0, 0), (24, .iconst 1, 25, 0, 0, 0, 1), (25, .ireturn, 26, 0, 0, 0, 0), (26, .aload 4, 28, 0, 0, 0, 0), (28, .iload_n 3, 29, 0, 0, 0, 0), (29, .aload_n 0, 30, 0, 0, 0, 0), (30, .getfield 127, 33, 6, 5, 0, 0), (33, .invokevirtual 292, 36, 3, 3, 0, 0), (36, .ireturn, 37, 0, 0, 0, 0)]
def cd_98 : List mEn := [(0, .aload_n 0, 1, 0, 0, 0, 0), (1, .iload_n 2, 2, 0, 0, 0, 0), (2, .invokevirtual 171, 5, 91, 2, 0, 0), (5, .astore 4, 7, 0, 0, 0, 0), (7, .aload 4, 9, 0, 0, 0, 0), (9, .ifnull 15, 12, 24, 0, 0, 0), (12, .aload 4, 14, 0, 0, 0, 0), (14, .getfield 295, 17, 0, 3, 0, 0), (17, .aload_n 1, 18, 0, 0, 0, 0), (18, .getfield 228, 21, 4, 0, 0, 0), (21, .if_icmp .eq 5, 24, 26, 0, 0, 0), (24, .iconst 1, 25, 0, 0, 0, 1), (25, .ireturn, 26, 0, 0, 0, 0), (26, .aload 4, 28, 0, 0, 0, 0), (28, .getfield 298, 31, 0, 6, 0, 0), (31, .ifCond .ne 5, 34, 36, 0, 0, 0), (34, .iconst 2, 35, 0, 0, 0, 2), (35, .ireturn, 36, 0, 0, 0, 0), (36, .aload_n 3, 37, 0, 0, 0, 0), (37, .bipush 11, 39, 0, 0, 0, 11), (39, .aload 4, 41, 0, 0, 0, 0), (41, .iconst 0, 42, 0, 0, 0, 0), (42, .invokevirtual 176, 45, 5, 2, 0, 0), (45, .invokevirtual 257, 48, 44, 3, 0, 0), (48, .aload 4, 50, 0, 0, 0, 0), (50, .aload_n 0, 51, 0, 0, 0, 0), (51, .getfield 127, 54, 6, 5, 0, 0), (54, .invokevirtual 299, 57, 4, 2, 0, 0), (57, .ireturn, 58, 0, 0, 0, 0)]
def cd_99 : List mEn := [(0, .aload_n 0, 1, 0, 0, 0, 0), (1, .invokespecial 1, 4, 0, 1, 0, 0), (4, .aload_n 0, 5, 0, 0, 0, 0), (5, .bipush 8, 7, 0, 0, 0, 8), (7, .newarray .int, 9, 11, 0, 0, 0), (9, .putfield 7, 12, 7, 6, 1, 0), (12, .aload_n 0, 13, 0, 0, 0, 0), (13, .bipush 8, 15, 0, 0, 0, 8), (15, .newarray .int, 17, 11, 0, 0, 0), (17, .putfield 13, 20, 7, 7, 1, 0), (20, .aload_n 0, 21, 0, 0, 0, 0), (21, .sipush 4096, 24, 0, 0, 0, 4096), (24, .newarray .byte, 26, 30, 0, 0, 0), (26, .putfield 16, 29, 7, 8, 1, 0), (29, .aload_n 0, 30, 0, 0, 0, 0), (30, .bipush 16, 32, 0, 0, 0, 16), (32, .newarray .int, 34, 12, 0, 0, 0), (34, .putfield 20, 37, 7, 9, 1, 0), (37, .aload_n 0, 38, 0, 0, 0, 0), (38, .bipush 16, 40, 0, 0, 0, 16), (40, .newarray .int, 42, 12, 0, 0, 0), (42, .putfield 23, 45, 7, 10, 1, 0), (45, .aload_n 0, 46, 0, 0, 0, 0), (46, .iconst 4, 47, 0, 0, 0, 4), (47, .newarray .int, 49, 10, 0, 0, 0), (49, .putfield 26, 52, 7, 11, 1, 0), (52, .aload_n 0, 53, 0, 0, 0, 0), (53, .iconst 4, 54, 0, 0, 0, 4), (54, .newarray .int, 56, 10, 0, 0, 0), (56, .putfield 29, 59, 7, 12, 1, 0), (59, .aload_n 0, 60, 0, 0, 0, 0), (60, .iconst 4, 61, 0, 0, 0, 4), (61, .newarray .boolean, 63, 31, 0, 0, 0), (63, .putfield 32, 66, 7, 13, 1, 0), (66, .aload_n 0, 67, 0, 0, 0, 0), (67, .bipush 32, 69, 0, 0, 0, 32), (69, .newarray .int, 71, 13, 0, 0, 0), (71, .putfield 36, 74, 7, 14, 1, 0), (74, .aload_n 0, 75, 0, 0, 0, 0), (75, .bipush 32, 77, 0, 0, 0, 32), (77, .newarray .int, 79, 13, 0, 0, 0), (79, .putfield 39, 82, 7, 15, 1, 0), (82, .aload_n 0, 83, 0, 0, 0, 0), (83, .bipush 32, 85, 0, 0, 0, 32), (85, .newarray .int, 87, 13, 0, 0, 0), (87, .putfield 42, 90, 7, 16, 1, 0), (90, .aload_n 0, 91, 0, 0, 0, 0), (91, .bipush 32, 93, 0, 0, 0, 32), (93, .newarray .int, 95, 13, 0, 0, 0), (95, .putfield 45, 98, 7, 17, 1, 0), (98, .aload_n 0, 99, 0, 0, 0, 0), (99, .bipush 32, 101, 0, 0, 0, 32), (101, .newarray .int, 103, 13, 0, 0, 0), (103, .putfield 48, 106, 7, 18, 1, 0), (106, .aload_n 0, 107, 0, 0, 0, 0), (107, .bipush 32, 109, 0, 0, 0, 32), (109, .newarray .int, 111, 13, 0, 0, 0), (111, .putfield 51, 114, 7, 19, 1, 0), (114, .aload_n 0, 115, 0, 0, 0, 0), (115, .bipush 32, 117, 0, 0, 0, 32), (117, .newarray .int, 119, 13, 0, 0, 0), (119, .putfield 54, 122, 7, 20, 1, 0), (122, .aload_n 0, 123, 0, 0, 0, 0), (123, .bipush 32, 125, 0, 0, 0, 32), (125, .newarray .int, 127, 13, 0, 0, 0), (127, .putfield 57, 130, 7, 21, 1, 0), (130, .aload_n 0, 131, 0, 0, 0, 0), (131, .bipush 32, 133, 0, 0, 0, 32), (133, .newarray .int, 135, 13, 0, 0, 0), (135, .putfield 60, 138, 7, 22, 1, 0), (138, .aload_n 0, 139, 0, 0, 0, 0), (139, .bipush 32, 141, 0, 0, 0, 32), (141, .newarray .int, 143, 13, 0, 0, 0), (143, .putfield 63, 146, 7, 23, 1, 0), (146, .aload_n 0, 147, 0, 0, 0, 0), (147, .bipush 32, 149, 0, 0, 0, 32), (149, .newarray .int, 151, 13, 0, 0, 0), (151, .putfield 66, 154, 7, 24, 1, 0), (154, .aload_n 0, 155, 0, 0, 0, 0), (155, .bipush 32, 157, 0, 0, 0, 32), (157, .newarray .int, 159, 13, 0, 0, 0), (159, .putfield 69, 162, 7, 25, 1, 0), (162, .aload_n 0, 163, 0, 0, 0, 0), (163, .sipush 1024, 166, 0, 0, 0, 1024), (166, .newarray .int, 168, 16, 0, 0, 0), (168, .putfield 72, 171, 7, 26, 1, 0), (171, .aload_n 0, 172, 0, 0, 0, 0), (172, .bipush 8, 174, 0, 0, 0, 8), (174, .newarray .boolean, 176, 32, 0, 0, 0), (176, .putfield 75, 179, 7, 29, 1, 0), (179, .aload_n 0, 180, 0, 0, 0, 0), (180, .bipush 8, 182, 0, 0, 0, 8), (182, .newarray .int, 184, 11, 0, 0, 0), (184, .putfield 78, 187, 7, 30, 1, 0), (187, .aload_n 0, 188, 0, 0, 0, 0), (188, .bipush 8, 190, 0, 0, 0, 8), (190, .newarray .int, 192, 11, 0, 0, 0), (192, .putfield 81, 195, 7, 31, 1, 0), (195, .aload_n 0, 196, 0, 0, 0, 0), (196, .bipush 8, 198, 0, 0, 0, 8), (198, .newarray .int, 200, 11, 0, 0, 0), (200, .putfield 84, 203, 7, 32, 1, 0), (203, .aload_n 0, 204, 0, 0, 0, 0), (204, .bipush 8, 206, 0, 0, 0, 8), (206, .newarray .int, 208, 11, 0, 0, 0), (208, .putfield 87, 211, 7, 33, 1, 0), (211, .aload_n 0, 212, 0, 0, 0, 0), (212, .bipush 8, 214, 0, 0, 0, 8), (214, .newarray .int, 216, 11, 0, 0, 0), (216, .putfield 90, 219, 7, 34, 1, 0), (219, .aload_n 0, 220, 0, 0, 0, 0), (220, .bipush 64, 222, 0, 0, 0, 64), (222, .newarray .int, 224, 14, 0, 0, 0), (224, .putfield 93, 227, 7, 35, 1, 0), (227, .aload_n 0, 228, 0, 0, 0, 0), (228, .bipush 64, 230, 0, 0, 0, 64), (230, .newarray .int, 232, 14, 0, 0, 0), (232, .putfield 96, 235, 7, 37, 1, 0), (235, .aload_n 0, 236, 0, 0, 0, 0), (236, .bipush 64, 238, 0, 0, 0, 64), (238, .newarray .int, 240, 14, 0, 0, 0), (240, .putfield 99, 243, 7, 38, 1, 0), (243, .aload_n 0, 244, 0, 0, 0, 0), (244, .bipush 64, 246, 0, 0, 0, 64), (246, .newarray .int, 248, 14, 0, 0, 0), (248, .putfield 102, 251, 7, 39, 1, 0), (251, .aload_n 0, 252, 0, 0, 0, 0), (252, .bipush 64, 254, 0, 0, 0, 64), (254, .newarray .int, 256, 14, 0, 0, 0), (256, .putfield 105, 259, 7, 40, 1, 0), (259, .iconst 0, 260, 0, 0, 0, 0), (260, .istore_n 1, 261, 0, 0, 0, 0), (261, .iload_n 1, 262, 0, 0, 0, 0), (262, .bipush 32, 264, 0, 0, 0, 32), (264, .if_icmp .ge 30, 267, 294, 0, 0, 0), (267, .aload_n 0, 268, 0, 0, 0, 0), (268, .getfield 54, 271, 7, 20, 1, 0), (271, .iload_n 1, 272, 0, 0, 0, 0), (272, .iconst (-1), 273, 0, 0, 0, -1), (273, .iastore, 274, 0, 0, 0, 0), (274, .aload_n 0, 275, 0, 0, 0, 0), (275, .getfield 57, 278, 7, 21, 1, 0), (278, .iload_n 1, 279, 0, 0, 0, 0), (279, .iconst (-1), 280, 0, 0, 0, -1), (280, .iastore, 281, 0, 0, 0, 0), (281, .aload_n 0, 282, 0, 0, 0, 0), (282, .getfield 60, 285, 7, 22, 1, 0), (285, .iload_n 1, 286, 0, 0, 0, 0), (286, .iconst (-1), 287, 0, 0, 0, -1), (287, .iastore, 288, 0, 0, 0, 0), (288, .iinc 1 1, 291, 0, 0, 0, 1), (291, .goto (-30), 294, 261, 0, 0, 0), (294, .return_, 295, 0, 0, 0, 0)]
def cd_100 : List mEn := [(0, .aload_n 0, 1, 0, 0, 0, 0), (1, .getfield 108, 4, 7, 0, 0, 0), (4, .ireturn, 5, 0, 0, 0, 0)]
def cd_101 : List mEn := [(0, .iload_n 0, 1, 0, 0, 0, 0), (1, .ifCond .lt 12, 4, 13, 0, 0, 0), (4, .iload_n 0, 5, 0, 0, 0, 0), (5, .iload_n 1, 6, 0, 0, 0, 0), (6, .if_icmp .ge 7, 9, 13, 0, 0, 0), (9, .iconst 1, 10, 0, 0, 0, 1), (10, .goto 4, 13, 14, 0, 0, 0), (13, .iconst 0, 14, 0, 0, 0, 0), (14, .ireturn, 15, 0, 0, 2, 0)]
def cd_102 : List mEn := [(0, .aload_n 0, 1, 0, 0, 0, 0), (1, .getfield 51, 4, 7, 19, 1, 0), (4, .iload_n 1, 5, 0, 0, 0, 0), (5, .iconst 1, 6, 0, 0, 0, 1), (6, .iastore, 7, 0, 0, 0, 0), (7, .aload_n 0, 8, 0, 0, 0, 0), (8, .getfield 57, 11, 7, 21, 1, 0), (11, .iload_n 1, 12, 0, 0, 0, 0), (12, .iconst (-1), 13, 0, 0, 0, -1), (13, .iastore, 14, 0, 0, 0, 0), (14, .aload_n 0, 15, 0, 0, 0, 0), (15, .getfield 60, 18, 7, 22, 1, 0), (18, .iload_n 1, 19, 0, 0, 0, 0), (19, .iconst (-1), 20, 0, 0, 0, -1), (20, .iastore, 21, 0, 0, 0, 0), (21, .aload_n 0, 22, 0, 0, 0, 0), (22, .getfield 63, 25, 7, 23, 1, 0), (25, .iload_n 1, 26, 0, 0, 0, 0), (26, .aload_n 0, 27, 0, 0, 0, 0), (27, .getfield 112, 30, 7, 27, 0, 0), (30, .iastore, 31, 0, 0, 0, 0), (31, .aload_n 0, 32, 0, 0, 0, 0), (32, .dup, 33, 0, 0, 0, 0), (33, .getfield 112, 36, 7, 27, 0, 0), (36, .iconst 1, 37, 0, 0, 0, 1), (37, .iadd, 38, 0, 0, 0, 0), (38, .putfield 112, 41, 7, 27, 0, 0), (41, .return_, 42, 0, 0, 0, 0)]
def cd_103 : List mEn := [(0, .iconst 0, 1, 0, 0, 0, 0), (1, .istore_n 2, 2, 0, 0, 0, 0), (2, .iload_n 2, 3, 0, 0, 0, 0), (3, .bipush 32, 5, 0, 0, 0, 32), (5, .if_icmp .ge 21, 8, 26, 0, 0, 0), (8, .aload_n 0, 9, 0, 0, 0, 0), (9, .getfield 72, 12, 7, 26, 1, 0), (12, .bipush 32, 14, 0, 0, 0, 32), (14, .iload_n 1, 15, 0, 0, 0, 0), (15, .imul, 16, 0, 0, 0, 0), (16, .iload_n 2, 17, 0, 0, 0, 0), (17, .iadd, 18, 0, 0, 0, 0), (18, .iconst 0, 19, 0, 0, 0, 0), (19, .iastore, 20, 0, 0, 0, 0), (20, .iinc 2 1, 23, 0, 0, 0, 1), (23, .goto (-21), 26, 2, 0, 0, 0), (26, .aload_n 0, 27, 0, 0, 0, 0), (27, .getfield 48, 30, 7, 18, 1, 0), (30, .iload_n 1, 31, 0, 0, 0, 0), (31, .aload_n 0, 32, 0, 0, 0, 0), (32, .getfield 36, 35, 7, 14, 1, 0), (35, .iload_n 1, 36, 0, 0, 0, 0), (36, .iaload, 37, 0, 0, 0, 0), (37, .iastore, 38, 0, 0, 0, 0), (38, .aload_n 0, 39, 0, 0, 0, 0), (39, .getfield 69, 42, 7, 25, 1, 0), (42, .iload_n 1, 43, 0, 0, 0, 0), (43, .aload_n 0, 44, 0, 0, 0, 0), (44, .getfield 115, 47, 7, 2, 0, 0), (47, .iastore, 48, 0, 0, 0, 0), (48, .aload_n 0, 49, 0, 0, 0, 0), (49, .getfield 54, 52, 7, 20, 1, 0), (52, .iload_n 1, 53, 0, 0, 0, 0), (53, .aload_n 0, 54, 0, 0, 0, 0), (54, .getfield 45, 57, 7, 17, 1, 0), (57, .iload_n 1, 58, 0, 0, 0, 0), (58, .iaload, 59, 0, 0, 0, 0), (59, .ifCond .le 17, 62, 76, 0, 0, 0), (62, .aload_n 0, 63, 0, 0, 0, 0), (63, .getfield 115, 66, 7, 2, 0, 0), (66, .aload_n 0, 67, 0, 0, 0, 0), (67, .getfield 45, 70, 7, 17, 1, 0), (70, .iload_n 1, 71, 0, 0, 0, 0), (71, .iaload, 72, 0, 0, 0, 0), (72, .iadd, 73, 0, 0, 0, 0), (73, .goto 4, 76, 77, 0, 0, 0), (76, .iconst (-1), 77, 0, 0, 0, -1), (77, .iastore, 78, 0, 0, 0, 0), (78, .aload_n 0, 79, 0, 0, 0, 0), (79, .iload_n 1, 80, 0, 0, 0, 0), (80, .invokevirtual 118, 83, 102, 2, 0, 0), (83, .return_, 84, 0, 0, 0, 0)]
def cd_104 : List mEn := [(0, .aload_n 0, 1, 0, 0, 0, 0), (1, .getfield 51, 4, 7, 19, 1, 0), (4, .iload_n 1, 5, 0, 0, 0, 0), (5, .iconst 0, 6, 0, 0, 0, 0), (6, .iastore, 7, 0, 0, 0, 0), (7, .aload_n 0, 8, 0, 0, 0, 0), (8, .getfield 54, 11, 7, 20, 1, 0), (11, .iload_n 1, 12, 0, 0, 0, 0), (12, .iconst (-1), 13, 0, 0, 0, -1), (13, .iastore, 14, 0, 0, 0, 0), (14, .aload_n 0, 15, 0, 0, 0, 0), (15, .getfield 57, 18, 7, 21, 1, 0), (18, .iload_n 1, 19, 0, 0, 0, 0), (19, .iconst (-1), 20, 0, 0, 0, -1), (20, .iastore, 21, 0, 0, 0, 0), (21, .aload_n 0, 22, 0, 0, 0, 0), (22, .getfield 60, 25, 7, 22, 1, 0), (25, .iload_n 1, 26, 0, 0, 0, 0), (26, .iconst (-1), 27, 0, 0, 0, -1), (27, .iastore, 28, 0, 0, 0, 0), (28, .return_, 29, 0, 0, 0, 0)]
def cd_105 : List mEn := [(0, .aload_n 0, 1, 0, 0, 0, 0), (1, .getfield 29, 4, 7, 12, 1, 0), (4, .iload_n 1, 5, 0, 0, 0, 0), (5, .dup2, 6, 0, 0, 0, 0), (6, .iaload, 7, 0, 0, 0, 0), (7, .iconst 1, 8, 0, 0, 0, 1), (8, .iadd, 9, 0, 0, 0, 0), (9, .iastore, 10, 0, 0, 0, 0), (10, .iconst 0, 11, 0, 0, 0, 0), (11, .istore_n 2, 12, 0, 0, 0, 0), (12, .iload_n 2, 13, 0, 0, 0, 0), (13, .iconst 4, 14, 0, 0, 0, 4), (14, .if_icmp .ge 20, 17, 34, 0, 0, 0), (17, .aload_n 0, 18, 0, 0, 0, 0), (18, .getfield 23, 21, 7, 10, 1, 0), (21, .iconst 4, 22, 0, 0, 0, 4), (22, .iload_n 1, 23, 0, 0, 0, 0), (23, .imul, 24, 0, 0, 0, 0), (24, .iload_n 2, 25, 0, 0, 0, 0), (25, .iadd, 26, 0, 0, 0, 0), (26, .iconst 0, 27, 0, 0, 0, 0), (27, .iastore, 28, 0, 0, 0, 0), (28, .iinc 2 1, 31, 0, 0, 0, 1), (31, .goto (-19), 34, 12, 0, 0, 0), (34, .iconst 0, 35, 0, 0, 0, 0), (35, .istore_n 2, 36, 0, 0, 0, 0), (36, .iload_n 2, 37, 0, 0, 0, 0), (37, .aload_n 0, 38, 0, 0, 0, 0), (38, .getfield 26, 41, 7, 11, 1, 0), (41, .iload_n 1, 42, 0, 0, 0, 0), (42, .iaload, 43, 0, 0, 0, 0), (43, .if_icmp .ge 19, 46, 62, 0, 0, 0), (46, .aload_n 0, 47, 0, 0, 0, 0), (47, .bipush 8, 49, 0, 0, 0, 8), (49, .iload_n 1, 50, 0, 0, 0, 0), (50, .imul, 51, 0, 0, 0, 0), (51, .iload_n 2, 52, 0, 0, 0, 0), (52, .iadd, 53, 0, 0, 0, 0), (53, .invokevirtual 122, 56, 103, 2, 0, 0), (56, .iinc 2 1, 59, 0, 0, 0, 1), (59, .goto (-23), 62, 36, 0, 0, 0), (62, .return_, 63, 0, 0, 0, 0)]
def cd_106 : List mEn := [(0, .aload_n 0, 1, 0, 0, 0, 0), (1, .getfield 125, 4, 7, 36, 0, 0), (4, .bipush 64, 6, 0, 0, 0, 64), (6, .irem, 7, 0, 0, 0, 0), (7, .istore 4, 9, 0, 0, 0, 0), (9, .aload_n 0, 10, 0, 0, 0, 0), (10, .getfield 96, 13, 7, 37, 1, 0), (13, .iload 4, 15, 0, 0, 0, 0), (15, .aload_n 0, 16, 0, 0, 0, 0), (16, .getfield 115, 19, 7, 2, 0, 0), (19, .iastore, 20, 0, 0, 0, 0), (20, .aload_n 0, 21, 0, 0, 0, 0), (21, .getfield 99, 24, 7, 38, 1, 0), (24, .iload 4, 26, 0, 0, 0, 0), (26, .iload_n 1, 27, 0, 0, 0, 0), (27, .iastore, 28, 0, 0, 0, 0), (28, .aload_n 0, 29, 0, 0, 0, 0), (29, .getfield 102, 32, 7, 39, 1, 0), (32, .iload 4, 34, 0, 0, 0, 0), (34, .iload_n 2, 35, 0, 0, 0, 0), (35, .iastore, 36, 0, 0, 0, 0), (36, .aload_n 0, 37, 0, 0, 0, 0), (37, .getfield 105, 40, 7, 40, 1, 0), (40, .iload 4, 42, 0, 0, 0, 0), (42, .iload_n 3, 43, 0, 0, 0, 0), (43, .iastore, 44, 0, 0, 0, 0), (44, .aload_n 0, 45, 0, 0, 0, 0), (45, .dup, 46, 0, 0, 0, 0), (46, .getfield 125, 49, 7, 36, 0, 0), (49, .iconst 1, 50, 0, 0, 0, 1), (50, .iadd, 51, 0, 0, 0, 0), (51, .putfield 125, 54, 7, 36, 0, 0), (54, .bipush 8, 56, 0, 0, 0, 8), (56, .iload_n 1, 57, 0, 0, 0, 0), (57, .imul, 58, 0, 0, 0, 0), (58, .iload_n 2, 59, 0, 0, 0, 0), (59, .iadd, 60, 0, 0, 0, 0), (60, .istore 5, 62, 0, 0, 0, 0), (62, .aload_n 0, 63, 0, 0, 0, 0), (63, .getfield 20, 66, 7, 9, 1, 0), (66, .iconst 4, 67, 0, 0, 0, 4), (67, .iload_n 1, 68, 0, 0, 0, 0), (68, .imul, 69, 0, 0, 0, 0), (69, .iload_n 3, 70, 0, 0, 0, 0), (70, .iadd, 71, 0, 0, 0, 0), (71, .iaload, 72, 0, 0, 0, 0), (72, .tableswitch 73 0 3 #[32, 50, 58, 66], 104, 145, 11, 0, 0), (104, .iload_n 3, 105, 0, 0, 0, 0), (105, .iconst 2, 106, 0, 0, 0, 2), (106, .if_icmp .eq 14, 109, 120, 0, 0, 0), (109, .aload_n 0, 110, 0, 0, 0, 0), (110, .getfield 48, 113, 7, 18, 1, 0), (113, .iload 5, 115, 0, 0, 0, 0), (115, .dup2, 116, 0, 0, 0, 0), (116, .iaload, 117, 0, 0, 0, 0), (117, .iconst 4, 118, 0, 0, 0, 4), (118, .iadd, 119, 0, 0, 0, 0), (119, .iastore, 120, 0, 0, 0, 0), (120, .iconst 0, 121, 0, 0, 0, 0), (121, .ireturn, 122, 0, 0, 2, 0), (122, .aload_n 0, 123, 0, 0, 0, 0), (123, .iload 5, 125, 0, 0, 0, 0), (125, .invokevirtual 128, 128, 104, 2, 0, 0), (128, .iconst 0, 129, 0, 0, 0, 0), (129, .ireturn, 130, 0, 0, 2, 0), (130, .aload_n 0, 131, 0, 0, 0, 0), (131, .iload 5, 133, 0, 0, 0, 0), (133, .invokevirtual 122, 136, 103, 2, 0, 0), (136, .iconst 0, 137, 0, 0, 0, 0), (137, .ireturn, 138, 0, 0, 2, 0), (138, .aload_n 0, 139, 0, 0, 0, 0), (139, .iload_n 1, 140, 0, 0, 0, 0), (140, .invokevirtual 131, 143, 105, 2, 0, 0), (143, .iconst 1, 144, 0, 0, 0, 1), (144, .ireturn, 145, 0, 0, 2, 0), (145, .aload_n 0, 146, 0, 0, 0, 0), (146, .getfield 32, 149, 7, 13, 1, 0), (149, .iload_n 1, 150, 0, 0, 0, 0), (150, .iconst 1, 151, 0, 0, 0, 1), (151, .bastore, 152, 0, 0, 0, 0), (152, .iconst 1, 153, 0, 0, 0, 1), (153, .ireturn, 154, 0, 0, 2, 0)]
def cd_107 : List mEn := [(0, .iload_n 0, 1, 0, 0, 0, 0), (1, .sipush 1024, 4, 0, 0, 0, 1024), (4, .invokestatic 134, 7, 101, 2, 0, 0), (7, .ifCond .eq 13, 10, 20, 0, 0, 0), (10, .iload_n 0, 11, 0, 0, 0, 0), (11, .iload_n 1, 12, 0, 0, 0, 0), (12, .irem, 13, 0, 0, 0, 0), (13, .ifCond .ne 7, 16, 20, 0, 0, 0), (16, .iconst 1, 17, 0, 0, 0, 1), (17, .goto 4, 20, 21, 0, 0, 0), (20, .iconst 0, 21, 0, 0, 0, 0), (21, .ireturn, 22, 0, 0, 2, 0)]
def cd_108 : List mEn := [(0, .iconst 0, 1, 0, 0, 0, 0), (1, .istore 4, 3, 0, 0, 0, 0), (3, .iload_n 3, 4, 0, 0, 0, 0), (4, .iconst 1, 5, 0, 0, 0, 1), (5, .isub, 6, 0, 0, 0, 0), (6, .istore 5, 8, 0, 0, 0, 0), (8, .iload 5, 10, 0, 0, 0, 0), (10, .ifCond .lt 36, 13, 46, 0, 0, 0), (13, .iload 4, 15, 0, 0, 0, 0), (15, .bipush 8, 17, 0, 0, 0, 8), (17, .ishl, 18, 0, 0, 0, 0), (18, .aload_n 0, 19, 0, 0, 0, 0), (19, .getfield 16, 22, 7, 8, 1, 0), (22, .sipush 1024, 25, 0, 0, 0, 1024), (25, .iload_n 1, 26, 0, 0, 0, 0), (26, .imul, 27, 0, 0, 0, 0), (27, .iload_n 2, 28, 0, 0, 0, 0), (28, .iadd, 29, 0, 0, 0, 0), (29, .iload 5, 31, 0, 0, 0, 0), (31, .iadd, 32, 0, 0, 0, 0), (32, .baload, 33, 0, 0, 0, 0), (33, .sipush 255, 36, 0, 0, 0, 255), (36, .iand, 37, 0, 0, 0, 0), (37, .ior, 38, 0, 0, 0, 0), (38, .istore 4, 40, 0, 0, 0, 0), (40, .iinc 5 (-1), 43, 0, 0, 0, -1), (43, .goto (-35), 46, 8, 0, 0, 0), (46, .iload 4, 48, 0, 0, 0, 0), (48, .ireturn, 49, 0, 0, 0, 0)]
def cd_109 : List mEn := [(0, .iconst 0, 1, 0, 0, 0, 0), (1, .istore 5, 3, 0, 0, 0, 0), (3, .iload 5, 5, 0, 0, 0, 0), (5, .iload_n 3, 6, 0, 0, 0, 0), (6, .if_icmp .ge 33, 9, 39, 0, 0, 0), (9, .aload_n 0, 10, 0, 0, 0, 0), (10, .getfield 16, 13, 7, 8, 1, 0), (13, .sipush 1024, 16, 0, 0, 0, 1024), (16, .iload_n 1, 17, 0, 0, 0, 0), (17, .imul, 18, 0, 0, 0, 0), (18, .iload_n 2, 19, 0, 0, 0, 0), (19, .iadd, 20, 0, 0, 0, 0), (20, .iload 5, 22, 0, 0, 0, 0), (22, .iadd, 23, 0, 0, 0, 0), (23, .iload 4, 25, 0, 0, 0, 0), (25, .bipush 8, 27, 0, 0, 0, 8), (27, .iload 5, 29, 0, 0, 0, 0), (29, .imul, 30, 0, 0, 0, 0), (30, .ishr, 31, 0, 0, 0, 0), (31, .i2b, 32, 0, 0, 0, 0), (32, .bastore, 33, 0, 0, 0, 0), (33, .iinc 5 1, 36, 0, 0, 0, 1), (36, .goto (-33), 39, 3, 0, 0, 0), (39, .return_, 40, 0, 0, 0, 0)]
def cd_110 : List mEn := [(0, .iload_n 0, 1, 0, 0, 0, 0), (1, .iload_n 1, 2, 0, 0, 0, 0), (2, .iushr, 3, 0, 0, 0, 0), (3, .iconst 1, 4, 0, 0, 0, 1), (4, .iload_n 2, 5, 0, 0, 0, 0), (5, .ishl, 6, 0, 0, 0, 0), (6, .iconst 1, 7, 0, 0, 0, 1), (7, .isub, 8, 0, 0, 0, 0), (8, .iand, 9, 0, 0, 0, 0), (9, .ireturn, 10, 0, 0, 0, 0)]
def cd_111 : List mEn := [(0, .iload_n 0, 1, 0, 0, 0, 0), (1, .i2l, 2, 0, 0, 0, 0), (2, .ldc2_w 138, 5, 4294967295, 0, 0, 0), (5, .land, 6, 0, 0, 0, 0), (6, .iload_n 1, 7, 0, 0, 0, 0), (7, .i2l, 8, 0, 0, 0, 0), (8, .ldc2_w 138, 11, 4294967295, 0, 0, 0), (11, .land, 12, 0, 0, 0, 0), (12, .lcmp, 13, 0, 0, 0, 0), (13, .ifCond .ge 7, 16, 20, 0, 0, 0), (16, .iconst 1, 17, 0, 0, 0, 1), (17, .goto 4, 20, 21, 0, 0, 0), (20, .iconst 0, 21, 0, 0, 0, 0), (21, .ireturn, 22, 0, 0, 2, 0)]
def cd_112 : List mEn := [(0, .aload_n 0, 1, 0, 0, 0, 0), (1, .iload_n 1, 2, 0, 0, 0, 0), (2, .putfield 140, 5, 7, 42, 0, 0), (5, .aload_n 0, 6, 0, 0, 0, 0), (6, .iconst 1, 7, 0, 0, 0, 1), (7, .putfield 143, 10, 7, 43, 2, 0), (10, .iconst (-1), 11, 0, 0, 0, -1), (11, .ireturn, 12, 0, 0, 0, 0)]
def cd_113 : List mEn := [(0, .iload_n 2, 1, 0, 0, 0, 0), (1, .iconst 3, 2, 0, 0, 0, 3), (2, .if_icmp .eq 8, 5, 10, 0, 0, 0), (5, .iload_n 2, 6, 0, 0, 0, 0), (6, .iconst 5, 7, 0, 0, 0, 5), (7, .if_icmp .le 5, 10, 12, 0, 0, 0), (10, .iconst 0, 11, 0, 0, 0, 0), (11, .ireturn, 12, 0, 0, 0, 0), (12, .iconst 1, 13, 0, 0, 0, 1), (13, .iload_n 2, 14, 0, 0, 0, 0), (14, .iconst 3, 15, 0, 0, 0, 3), (15, .iand, 16, 0, 0, 0, 0), (16, .ishl, 17, 0, 0, 0, 0), (17, .istore 4, 19, 0, 0, 0, 0), (19, .iload_n 3, 20, 0, 0, 0, 0), (20, .iload 4, 22, 0, 0, 0, 0), (22, .invokestatic 147, 25, 107, 2, 0, 0), (25, .ifCond .ne 5, 28, 30, 0, 0, 0), (28, .iconst 1, 29, 0, 0, 0, 1), (29, .ireturn, 30, 0, 0, 0, 0), (30, .aload_n 0, 31, 0, 0, 0, 0), (31, .iload_n 1, 32, 0, 0, 0, 0), (32, .iload_n 3, 33, 0, 0, 0, 0), (33, .iload 4, 35, 0, 0, 0, 0), (35, .invokevirtual 150, 38, 108, 4, 0, 0), (38, .istore 5, 40, 0, 0, 0, 0), (40, .aload_n 0, 41, 0, 0, 0, 0), (41, .iload_n 2, 42, 0, 0, 0, 0), (42, .ifCond .ne 14, 45, 56, 0, 0, 0), (45, .iload 5, 47, 0, 0, 0, 0), (47, .bipush 24, 49, 0, 0, 0, 24), (49, .ishl, 50, 0, 0, 0, 0), (50, .bipush 24, 52, 0, 0, 0, 24), (52, .ishr, 53, 0, 0, 0, 0), (53, .goto 21, 56, 74, 0, 0, 0), (56, .iload_n 2, 57, 0, 0, 0, 0), (57, .iconst 1, 58, 0, 0, 0, 1), (58, .if_icmp .ne 14, 61, 72, 0, 0, 0), (61, .iload 5, 63, 0, 0, 0, 0), (63, .bipush 16, 65, 0, 0, 0, 16), (65, .ishl, 66, 0, 0, 0, 0), (66, .bipush 16, 68, 0, 0, 0, 16), (68, .ishr, 69, 0, 0, 0, 0), (69, .goto 5, 72, 74, 0, 0, 0), (72, .iload 5, 74, 0, 0, 0, 0), (74, .invokevirtual 154, 77, 112, 2, 0, 0), (77, .ireturn, 78, 0, 0, 0, 0)]
def cd_114 : List mEn := [(0, .iload_n 2, 1, 0, 0, 0, 0), (1, .iconst 2, 2, 0, 0, 0, 2), (2, .if_icmp .le 5, 5, 7, 0, 0, 0), (5, .iconst 0, 6, 0, 0, 0, 0), (6, .ireturn, 7, 0, 0, 0, 0), (7, .iload_n 3, 8, 0, 0, 0, 0), (8, .iconst 1, 9, 0, 0, 0, 1), (9, .iload_n 2, 10, 0, 0, 0, 0), (10, .ishl, 11, 0, 0, 0, 0), (11, .invokestatic 147, 14, 107, 2, 0, 0), (14, .ifCond .ne 5, 17, 19, 0, 0, 0), (17, .iconst 1, 18, 0, 0, 0, 1), (18, .ireturn, 19, 0, 0, 0, 0), (19, .aload_n 0, 20, 0, 0, 0, 0), (20, .iload_n 1, 21, 0, 0, 0, 0), (21, .iload_n 3, 22, 0, 0, 0, 0), (22, .iconst 1, 23, 0, 0, 0, 1), (23, .iload_n 2, 24, 0, 0, 0, 0), (24, .ishl, 25, 0, 0, 0, 0), (25, .iload 4, 27, 0, 0, 0, 0), (27, .invokevirtual 158, 30, 109, 5, 0, 0), (30, .iconst (-1), 31, 0, 0, 0, -1), (31, .ireturn, 32, 0, 0, 0, 0)]
def cd_115 : List mEn := [(0, .iload_n 0, 1, 0, 0, 0, 0), (1, .tableswitch 93 0 6 #[43, 54, 93, 93, 65, 76, 87], 44, 94, 12, 0, 0), (44, .iload_n 1, 45, 0, 0, 0, 0), (45, .iload_n 2, 46, 0, 0, 0, 0), (46, .if_icmp .ne 7, 49, 53, 0, 0, 0), (49, .iconst 1, 50, 0, 0, 0, 1), (50, .goto 4, 53, 54, 0, 0, 0), (53, .iconst 0, 54, 0, 0, 0, 0), (54, .ireturn, 55, 0, 0, 2, 0), (55, .iload_n 1, 56, 0, 0, 0, 0), (56, .iload_n 2, 57, 0, 0, 0, 0), (57, .if_icmp .eq 7, 60, 64, 0, 0, 0), (60, .iconst 1, 61, 0, 0, 0, 1), (61, .goto 4, 64, 65, 0, 0, 0), (64, .iconst 0, 65, 0, 0, 0, 0), (65, .ireturn, 66, 0, 0, 2, 0), (66, .iload_n 1, 67, 0, 0, 0, 0), (67, .iload_n 2, 68, 0, 0, 0, 0), (68, .if_icmp .ge 7, 71, 75, 0, 0, 0), (71, .iconst 1, 72, 0, 0, 0, 1), (72, .goto 4, 75, 76, 0, 0, 0), (75, .iconst 0, 76, 0, 0, 0, 0), (76, .ireturn, 77, 0, 0, 2, 0), (77, .iload_n 1, 78, 0, 0, 0, 0), (78, .iload_n 2, 79, 0, 0, 0, 0), (79, .if_icmp .lt 7, 82, 86, 0, 0, 0), (82, .iconst 1, 83, 0, 0, 0, 1), (83, .goto 4, 86, 87, 0, 0, 0), (86, .iconst 0, 87, 0, 0, 0, 0), (87, .ireturn, 88, 0, 0, 2, 0), (88, .iload_n 1, 89, 0, 0, 0, 0), (89, .iload_n 2, 90, 0, 0, 0, 0), (90, .invokestatic 162, 93, 111, 2, 0, 0), (93, .ireturn, 94, 0, 0, 2, 0), (94, .iload_n 1, 95, 0, 0, 0, 0), (95, .iload_n 2, 96, 0, 0, 0, 0), (96, .invokestatic 162, 99, 111, 2, 0, 0), (99, .ifCond .ne 7, 102, 106, 0, 0, 0), (102, .iconst 1, 103, 0, 0, 0, 1), (103, .goto 4, 106, 107, 0, 0, 0), (106, .iconst 0, 107, 0, 0, 0, 0), (107, .ireturn, 108, 0, 0, 2, 0)]
def cd_116 : List mEn := [(0, .iload_n 0, 1, 0, 0, 0, 0), (1, .tableswitch 117 0 6 #[43, 57, 64, 75, 89, 93, 113], 44, 118, 13, 0, 0), (44, .iload_n 3, 45, 0, 0, 0, 0), (45, .ifCond .eq 9, 48, 54, 0, 0, 0), (48, .iload_n 1, 49, 0, 0, 0, 0), (49, .iload_n 2, 50, 0, 0, 0, 0), (50, .isub, 51, 0, 0, 0, 0), (51, .goto 6, 54, 57, 0, 0, 0), (54, .iload_n 1, 55, 0, 0, 0, 0), (55, .iload_n 2, 56, 0, 0, 0, 0), (56, .iadd, 57, 0, 0, 0, 0), (57, .ireturn, 58, 0, 0, 0, 0), (58, .iload_n 1, 59, 0, 0, 0, 0), (59, .iload_n 2, 60, 0, 0, 0, 0), (60, .bipush 31, 62, 0, 0, 0, 31), (62, .iand, 63, 0, 0, 0, 0), (63, .ishl, 64, 0, 0, 0, 0), (64, .ireturn, 65, 0, 0, 0, 0), (65, .iload_n 1, 66, 0, 0, 0, 0), (66, .iload_n 2, 67, 0, 0, 0, 0), (67, .if_icmp .ge 7, 70, 74, 0, 0, 0), (70, .iconst 1, 71, 0, 0, 0, 1), (71, .goto 4, 74, 75, 0, 0, 0), (74, .iconst 0, 75, 0, 0, 0, 0), (75, .ireturn, 76, 0, 0, 0, 0), (76, .iload_n 1, 77, 0, 0, 0, 0), (77, .iload_n 2, 78, 0, 0, 0, 0), (78, .invokestatic 162, 81, 111, 2, 0, 0), (81, .ifCond .eq 7, 84, 88, 0, 0, 0), (84, .iconst 1, 85, 0, 0, 0, 1), (85, .goto 4, 88, 89, 0, 0, 0), (88, .iconst 0, 89, 0, 0, 0, 0), (89, .ireturn, 90, 0, 0, 0, 0), (90, .iload_n 1, 91, 0, 0, 0, 0), (91, .iload_n 2, 92, 0, 0, 0, 0), (92, .ixor, 93, 0, 0, 0, 0), (93, .ireturn, 94, 0, 0, 0, 0), (94, .iload_n 3, 95, 0, 0, 0, 0), (95, .ifCond .eq 12, 98, 107, 0, 0, 0), (98, .iload_n 1, 99, 0, 0, 0, 0), (99, .iload_n 2, 100, 0, 0, 0, 0), (100, .bipush 31, 102, 0, 0, 0, 31), (102, .iand, 103, 0, 0, 0, 0), (103, .ishr, 104, 0, 0, 0, 0), (104, .goto 9, 107, 113, 0, 0, 0), (107, .iload_n 1, 108, 0, 0, 0, 0), (108, .iload_n 2, 109, 0, 0, 0, 0), (109, .bipush 31, 111, 0, 0, 0, 31), (111, .iand, 112, 0, 0, 0, 0), (112, .iushr, 113, 0, 0, 0, 0), (113, .ireturn, 114, 0, 0, 0, 0), (114, .iload_n 1, 115, 0, 0, 0, 0), (115, .iload_n 2, 116, 0, 0, 0, 0), (116, .ior, 117, 0, 0, 0, 0), (117, .ireturn, 118, 0, 0, 0, 0), (118, .iload_n 1, 119, 0, 0, 0, 0), (119, .iload_n 2, 120, 0, 0, 0, 0), (120, .iand, 121, 0, 0, 0, 0), (121, .ireturn, 122, 0, 0, 0, 0)]
def cd_117 : List mEn := [(0, .iload_n 2, 1, 0, 0, 0, 0), (1, .bipush 127, 3, 0, 0, 0, 127), (3, .iand, 4, 0, 0, 0, 0), (4, .istore 4, 6, 0, 0, 0, 0), (6, .aload_n 0, 7, 0, 0, 0, 0), (7, .getfield 48, 10, 7, 18, 1, 0), (10, .iload_n 1, 11, 0, 0, 0, 0), (11, .iaload, 12, 0, 0, 0, 0), (12, .istore 5, 14, 0, 0, 0, 0), (14, .iload 4, 16, 0, 0, 0, 0), (16, .bipush 111, 18, 0, 0, 0, 111), (18, .if_icmp .ne 60, 21, 78, 0, 0, 0), (21, .aload_n 0, 22, 0, 0, 0, 0), (22, .iload 5, 24, 0, 0, 0, 0), (24, .iload_n 2, 25, 0, 0, 0, 0), (25, .bipush 31, 27, 0, 0, 0, 31), (27, .ishr, 28, 0, 0, 0, 0), (28, .bipush 20, 30, 0, 0, 0, 20), (30, .ishl, 31, 0, 0, 0, 0), (31, .iload_n 2, 32, 0, 0, 0, 0), (32, .bipush 12, 34, 0, 0, 0, 12), (34, .bipush 8, 36, 0, 0, 0, 8), (36, .invokestatic 165, 39, 110, 3, 0, 0), (39, .bipush 12, 41, 0, 0, 0, 12), (41, .ishl, 42, 0, 0, 0, 0), (42, .ior, 43, 0, 0, 0, 0), (43, .iload_n 2, 44, 0, 0, 0, 0), (44, .bipush 20, 46, 0, 0, 0, 20), (46, .iconst 1, 47, 0, 0, 0, 1), (47, .invokestatic 165, 50, 110, 3, 0, 0), (50, .bipush 11, 52, 0, 0, 0, 11), (52, .ishl, 53, 0, 0, 0, 0), (53, .ior, 54, 0, 0, 0, 0), (54, .iload_n 2, 55, 0, 0, 0, 0), (55, .bipush 21, 57, 0, 0, 0, 21), (57, .bipush 10, 59, 0, 0, 0, 10), (59, .invokestatic 165, 62, 110, 3, 0, 0), (62, .iconst 1, 63, 0, 0, 0, 1), (63, .ishl, 64, 0, 0, 0, 0), (64, .ior, 65, 0, 0, 0, 0), (65, .iadd, 66, 0, 0, 0, 0), (66, .putfield 168, 69, 7, 41, 0, 0), (69, .aload_n 0, 70, 0, 0, 0, 0), (70, .iload 5, 72, 0, 0, 0, 0), (72, .iconst 4, 73, 0, 0, 0, 4), (73, .iadd, 74, 0, 0, 0, 0), (74, .invokevirtual 154, 77, 112, 2, 0, 0), (77, .ireturn, 78, 0, 0, 0, 0), (78, .iload 4, 80, 0, 0, 0, 0), (80, .bipush 103, 82, 0, 0, 0, 103), (82, .if_icmp .ne 37, 85, 119, 0, 0, 0), (85, .iload_n 2, 86, 0, 0, 0, 0), (86, .bipush 12, 88, 0, 0, 0, 12), (88, .iconst 3, 89, 0, 0, 0, 3), (89, .invokestatic 165, 92, 110, 3, 0, 0), (92, .ifCond .eq 5, 95, 97, 0, 0, 0), (95, .iconst 0, 96, 0, 0, 0, 0), (96, .ireturn, 97, 0, 0, 0, 0), (97, .aload_n 0, 98, 0, 0, 0, 0), (98, .iload_n 3, 99, 0, 0, 0, 0), (99, .iload_n 2, 100, 0, 0, 0, 0), (100, .bipush 20, 102, 0, 0, 0, 20), (102, .ishr, 103, 0, 0, 0, 0), (103, .iadd, 104, 0, 0, 0, 0), (104, .bipush (-2), 106, 0, 0, 0, -2), (106, .iand, 107, 0, 0, 0, 0), (107, .putfield 168, 110, 7, 41, 0, 0), (110, .aload_n 0, 111, 0, 0, 0, 0), (111, .iload 5, 113, 0, 0, 0, 0), (113, .iconst 4, 114, 0, 0, 0, 4), (114, .iadd, 115, 0, 0, 0, 0), (115, .invokevirtual 154, 118, 112, 2, 0, 0), (118, .ireturn, 119, 0, 0, 0, 0), (119, .iload_n 2, 120, 0, 0, 0, 0), (120, .bipush 12, 122, 0, 0, 0, 12), (122, .iconst 3, 123, 0, 0, 0, 3), (123, .invokestatic 165, 126, 110, 3, 0, 0), (126, .istore 6, 128, 0, 0, 0, 0), (128, .iload 6, 130, 0, 0, 0, 0), (130, .iconst 2, 131, 0, 0, 0, 2), (131, .if_icmp .eq 9, 134, 140, 0, 0, 0), (134, .iload 6, 136, 0, 0, 0, 0), (136, .iconst 3, 137, 0, 0, 0, 3), (137, .if_icmp .ne 5, 140, 142, 0, 0, 0), (140, .iconst 0, 141, 0, 0, 0, 0), (141, .ireturn, 142, 0, 0, 0, 0), (142, .iload 6, 144, 0, 0, 0, 0), (144, .iload_n 3, 145, 0, 0, 0, 0), (145, .aload_n 0, 146, 0, 0, 0, 0), (146, .getfield 72, 149, 7, 26, 1, 0), (149, .bipush 32, 151, 0, 0, 0, 32), (151, .iload_n 1, 152, 0, 0, 0, 0), (152, .imul, 153, 0, 0, 0, 0), (153, .iload_n 2, 154, 0, 0, 0, 0), (154, .bipush 20, 156, 0, 0, 0, 20), (156, .iconst 5, 157, 0, 0, 0, 5), (157, .invokestatic 165, 160, 110, 3, 0, 0), (160, .iadd, 161, 0, 0, 0, 0), (161, .iaload, 162, 0, 0, 0, 0), (162, .invokestatic 171, 165, 115, 3, 0, 0), (165, .ifCond .eq 49, 168, 214, 0, 0, 0), (168, .aload_n 0, 169, 0, 0, 0, 0), (169, .iload 5, 171, 0, 0, 0, 0), (171, .iload_n 2, 172, 0, 0, 0, 0), (172, .bipush 31, 174, 0, 0, 0, 31), (174, .ishr, 175, 0, 0, 0, 0), (175, .bipush 12, 177, 0, 0, 0, 12), (177, .ishl, 178, 0, 0, 0, 0), (178, .iload_n 2, 179, 0, 0, 0, 0), (179, .bipush 7, 181, 0, 0, 0, 7), (181, .iconst 1, 182, 0, 0, 0, 1), (182, .invokestatic 165, 185, 110, 3, 0, 0), (185, .bipush 11, 187, 0, 0, 0, 11), (187, .ishl, 188, 0, 0, 0, 0), (188, .ior, 189, 0, 0, 0, 0), (189, .iload_n 2, 190, 0, 0, 0, 0), (190, .bipush 25, 192, 0, 0, 0, 25), (192, .bipush 6, 194, 0, 0, 0, 6), (194, .invokestatic 165, 197, 110, 3, 0, 0), (197, .iconst 5, 198, 0, 0, 0, 5), (198, .ishl, 199, 0, 0, 0, 0), (199, .ior, 200, 0, 0, 0, 0), (200, .iload_n 2, 201, 0, 0, 0, 0), (201, .bipush 8, 203, 0, 0, 0, 8), (203, .iconst 4, 204, 0, 0, 0, 4), (204, .invokestatic 165, 207, 110, 3, 0, 0), (207, .iconst 1, 208, 0, 0, 0, 1), (208, .ishl, 209, 0, 0, 0, 0), (209, .ior, 210, 0, 0, 0, 0), (210, .iadd, 211, 0, 0, 0, 0), (211, .putfield 168, 214, 7, 41, 0, 0), (214, .iconst (-1), 215, 0, 0, 0, -1), (215, .ireturn, 216, 0, 0, 0, 0)]
def cd_118 : List mEn := [(0, .iload_n 1, 1, 0, 0, 0, 0), (1, .bipush 12, 3, 0, 0, 0, 12), (3, .iconst 3, 4, 0, 0, 0, 3), (4, .invokestatic 165, 7, 110, 3, 0, 0), (7, .istore 4, 9, 0, 0, 0, 0), (9, .iload_n 1, 10, 0, 0, 0, 0), (10, .bipush 25, 12, 0, 0, 0, 25), (12, .bipush 7, 14, 0, 0, 0, 7), (14, .invokestatic 165, 17, 110, 3, 0, 0), (17, .istore 5, 19, 0, 0, 0, 0), (19, .iload_n 1, 20, 0, 0, 0, 0), (20, .bipush 127, 22, 0, 0, 0, 127), (22, .iand, 23, 0, 0, 0, 0), (23, .bipush 51, 25, 0, 0, 0, 51), (25, .if_icmp .ne 52, 28, 77, 0, 0, 0), (28, .iload 5, 30, 0, 0, 0, 0), (30, .ifCond .eq 23, 33, 53, 0, 0, 0), (33, .iload 5, 35, 0, 0, 0, 0), (35, .bipush 32, 37, 0, 0, 0, 32), (37, .if_icmp .ne 14, 40, 51, 0, 0, 0), (40, .iload 4, 42, 0, 0, 0, 0), (42, .ifCond .eq 11, 45, 53, 0, 0, 0), (45, .iload 4, 47, 0, 0, 0, 0), (47, .iconst 5, 48, 0, 0, 0, 5), (48, .if_icmp .eq 5, 51, 53, 0, 0, 0), (51, .iconst 0, 52, 0, 0, 0, 0), (52, .ireturn, 53, 0, 0, 0, 0), (53, .aload_n 0, 54, 0, 0, 0, 0), (54, .iload 4, 56, 0, 0, 0, 0), (56, .iload_n 2, 57, 0, 0, 0, 0), (57, .iload_n 3, 58, 0, 0, 0, 0), (58, .iload 5, 60, 0, 0, 0, 0), (60, .bipush 32, 62, 0, 0, 0, 32), (62, .if_icmp .ne 7, 65, 69, 0, 0, 0), (65, .iconst 1, 66, 0, 0, 0, 1), (66, .goto 4, 69, 70, 0, 0, 0), (69, .iconst 0, 70, 0, 0, 0, 0), (70, .invokestatic 175, 73, 116, 4, 0, 0), (73, .invokevirtual 154, 76, 112, 2, 0, 0), (76, .ireturn, 77, 0, 0, 0, 0), (77, .iload 4, 79, 0, 0, 0, 0), (79, .iconst 1, 80, 0, 0, 0, 1), (80, .if_icmp .ne 8, 83, 88, 0, 0, 0), (83, .iload 5, 85, 0, 0, 0, 0), (85, .ifCond .ne 21, 88, 106, 0, 0, 0), (88, .iload 4, 90, 0, 0, 0, 0), (90, .iconst 5, 91, 0, 0, 0, 5), (91, .if_icmp .ne 17, 94, 108, 0, 0, 0), (94, .iload 5, 96, 0, 0, 0, 0), (96, .ifCond .eq 12, 99, 108, 0, 0, 0), (99, .iload 5, 101, 0, 0, 0, 0), (101, .bipush 32, 103, 0, 0, 0, 32), (103, .if_icmp .eq 5, 106, 108, 0, 0, 0), (106, .iconst 0, 107, 0, 0, 0, 0), (107, .ireturn, 108, 0, 0, 0, 0), (108, .aload_n 0, 109, 0, 0, 0, 0), (109, .iload 4, 111, 0, 0, 0, 0), (111, .iload_n 2, 112, 0, 0, 0, 0), (112, .iload_n 1, 113, 0, 0, 0, 0), (113, .bipush 20, 115, 0, 0, 0, 20), (115, .ishr, 116, 0, 0, 0, 0), (116, .iload 4, 118, 0, 0, 0, 0), (118, .iconst 5, 119, 0, 0, 0, 5), (119, .if_icmp .ne 14, 122, 133, 0, 0, 0), (122, .iload 5, 124, 0, 0, 0, 0), (124, .bipush 32, 126, 0, 0, 0, 32), (126, .if_icmp .ne 7, 129, 133, 0, 0, 0), (129, .iconst 1, 130, 0, 0, 0, 1), (130, .goto 4, 133, 134, 0, 0, 0), (133, .iconst 0, 134, 0, 0, 0, 0), (134, .invokestatic 175, 137, 116, 4, 0, 0), (137, .invokevirtual 154, 140, 112, 2, 0, 0), (140, .ireturn, 141, 0, 0, 0, 0)]
def cd_119 : List mEn := [(0, .aload_n 0, 1, 0, 0, 0, 0), (1, .getfield 48, 4, 7, 18, 1, 0), (4, .iload_n 2, 5, 0, 0, 0, 0), (5, .iaload, 6, 0, 0, 0, 0), (6, .iconst 4, 7, 0, 0, 0, 4), (7, .invokestatic 147, 10, 107, 2, 0, 0), (10, .ifCond .ne 5, 13, 15, 0, 0, 0), (13, .iconst 1, 14, 0, 0, 0, 1), (14, .ireturn, 15, 0, 0, 0, 0), (15, .aload_n 0, 16, 0, 0, 0, 0), (16, .iload_n 1, 17, 0, 0, 0, 0), (17, .aload_n 0, 18, 0, 0, 0, 0), (18, .getfield 48, 21, 7, 18, 1, 0), (21, .iload_n 2, 22, 0, 0, 0, 0), (22, .iaload, 23, 0, 0, 0, 0), (23, .iconst 4, 24, 0, 0, 0, 4), (24, .invokevirtual 150, 27, 108, 4, 0, 0), (27, .istore_n 3, 28, 0, 0, 0, 0), (28, .aload_n 0, 29, 0, 0, 0, 0), (29, .getfield 72, 32, 7, 26, 1, 0), (32, .bipush 32, 34, 0, 0, 0, 32), (34, .iload_n 2, 35, 0, 0, 0, 0), (35, .imul, 36, 0, 0, 0, 0), (36, .iload_n 3, 37, 0, 0, 0, 0), (37, .bipush 15, 39, 0, 0, 0, 15), (39, .iconst 5, 40, 0, 0, 0, 5), (40, .invokestatic 165, 43, 110, 3, 0, 0), (43, .iadd, 44, 0, 0, 0, 0), (44, .iaload, 45, 0, 0, 0, 0), (45, .istore 4, 47, 0, 0, 0, 0), (47, .aload_n 0, 48, 0, 0, 0, 0), (48, .getfield 72, 51, 7, 26, 1, 0), (51, .bipush 32, 53, 0, 0, 0, 32), (53, .iload_n 2, 54, 0, 0, 0, 0), (54, .imul, 55, 0, 0, 0, 0), (55, .iload_n 3, 56, 0, 0, 0, 0), (56, .bipush 20, 58, 0, 0, 0, 20), (58, .iconst 5, 59, 0, 0, 0, 5), (59, .invokestatic 165, 62, 110, 3, 0, 0), (62, .iadd, 63, 0, 0, 0, 0), (63, .iaload, 64, 0, 0, 0, 0), (64, .istore 5, 66, 0, 0, 0, 0), (66, .aload_n 0, 67, 0, 0, 0, 0), (67, .aload_n 0, 68, 0, 0, 0, 0), (68, .getfield 48, 71, 7, 18, 1, 0), (71, .iload_n 2, 72, 0, 0, 0, 0), (72, .iaload, 73, 0, 0, 0, 0), (73, .iconst 4, 74, 0, 0, 0, 4), (74, .iadd, 75, 0, 0, 0, 0), (75, .putfield 168, 78, 7, 41, 0, 0), (78, .aload_n 0, 79, 0, 0, 0, 0), (79, .iconst 0, 80, 0, 0, 0, 0), (80, .putfield 143, 83, 7, 43, 2, 0), (83, .iload_n 3, 84, 0, 0, 0, 0), (84, .bipush 127, 86, 0, 0, 0, 127), (86, .iand, 87, 0, 0, 0, 0), (87, .lookupswitch 204 #[(3, 125), (19, 177), (23, 99), (35, 145), (51, 177), (55, 89), (99, 116), (103, 116), (111, 116), (115, 187)], 176, 291, 14, 0, 0), (176, .aload_n 0, 177, 0, 0, 0, 0), (177, .iload_n 3, 178, 0, 0, 0, 0), (178, .sipush (-4096), 181, 0, 0, 0, -4096), (181, .iand, 182, 0, 0, 0, 0), (182, .invokevirtual 154, 185, 112, 2, 0, 0), (185, .ireturn, 186, 0, 0, 0, 0), (186, .aload_n 0, 187, 0, 0, 0, 0), (187, .aload_n 0, 188, 0, 0, 0, 0), (188, .getfield 48, 191, 7, 18, 1, 0), (191, .iload_n 2, 192, 0, 0, 0, 0), (192, .iaload, 193, 0, 0, 0, 0), (193, .iload_n 3, 194, 0, 0, 0, 0), (194, .sipush (-4096), 197, 0, 0, 0, -4096), (197, .iand, 198, 0, 0, 0, 0), (198, .iadd, 199, 0, 0, 0, 0), (199, .invokevirtual 154, 202, 112, 2, 0, 0), (202, .ireturn, 203, 0, 0, 0, 0), (203, .aload_n 0, 204, 0, 0, 0, 0), (204, .iload_n 2, 205, 0, 0, 0, 0), (205, .iload_n 3, 206, 0, 0, 0, 0), (206, .iload 4, 208, 0, 0, 0, 0), (208, .invokevirtual 179, 211, 117, 4, 0, 0), (211, .ireturn, 212, 0, 0, 0, 0), (212, .aload_n 0, 213, 0, 0, 0, 0), (213, .iload_n 1, 214, 0, 0, 0, 0), (214, .iload_n 3, 215, 0, 0, 0, 0), (215, .bipush 12, 217, 0, 0, 0, 12), (217, .iconst 3, 218, 0, 0, 0, 3), (218, .invokestatic 165, 221, 110, 3, 0, 0), (221, .iload 4, 223, 0, 0, 0, 0), (223, .iload_n 3, 224, 0, 0, 0, 0), (224, .bipush 20, 226, 0, 0, 0, 20), (226, .ishr, 227, 0, 0, 0, 0), (227, .iadd, 228, 0, 0, 0, 0), (228, .invokevirtual 182, 231, 113, 4, 0, 0), (231, .ireturn, 232, 0, 0, 0, 0), (232, .aload_n 0, 233, 0, 0, 0, 0), (233, .iload_n 1, 234, 0, 0, 0, 0), (234, .iload_n 3, 235, 0, 0, 0, 0), (235, .bipush 12, 237, 0, 0, 0, 12), (237, .iconst 3, 238, 0, 0, 0, 3), (238, .invokestatic 165, 241, 110, 3, 0, 0), (241, .iload 4, 243, 0, 0, 0, 0), (243, .iload_n 3, 244, 0, 0, 0, 0), (244, .bipush 25, 246, 0, 0, 0, 25), (246, .ishr, 247, 0, 0, 0, 0), (247, .iconst 5, 248, 0, 0, 0, 5), (248, .ishl, 249, 0, 0, 0, 0), (249, .iload_n 3, 250, 0, 0, 0, 0), (250, .bipush 7, 252, 0, 0, 0, 7), (252, .iconst 5, 253, 0, 0, 0, 5), (253, .invokestatic 165, 256, 110, 3, 0, 0), (256, .ior, 257, 0, 0, 0, 0), (257, .iadd, 258, 0, 0, 0, 0), (258, .iload 5, 260, 0, 0, 0, 0), (260, .invokevirtual 185, 263, 114, 5, 0, 0), (263, .ireturn, 264, 0, 0, 0, 0), (264, .aload_n 0, 265, 0, 0, 0, 0), (265, .iload_n 3, 266, 0, 0, 0, 0), (266, .iload 4, 268, 0, 0, 0, 0), (268, .iload 5, 270, 0, 0, 0, 0), (270, .invokevirtual 189, 273, 118, 4, 0, 0), (273, .ireturn, 274, 0, 0, 0, 0), (274, .iload_n 3, 275, 0, 0, 0, 0), (275, .bipush 115, 277, 0, 0, 0, 115), (277, .if_icmp .ne 12, 280, 289, 0, 0, 0), (280, .aload_n 0, 281, 0, 0, 0, 0), (281, .iload_n 1, 282, 0, 0, 0, 0), (282, .iload_n 2, 283, 0, 0, 0, 0), (283, .invokevirtual 192, 286, 129, 3, 0, 0), (286, .goto 4, 289, 290, 0, 0, 0), (289, .iconst 0, 290, 0, 0, 0, 0), (290, .ireturn, 291, 0, 0, 0, 0), (291, .iconst 0, 292, 0, 0, 0, 0), (292, .ireturn, 293, 0, 0, 0, 0)]
def cd_120 : List mEn := [(0, .aload_n 0, 1, 0, 0, 0, 0), (1, .getfield 51, 4, 7, 19, 1, 0), (4, .iload_n 1, 5, 0, 0, 0, 0), (5, .iconst 2, 6, 0, 0, 0, 2), (6, .iastore, 7, 0, 0, 0, 0), (7, .aload_n 0, 8, 0, 0, 0, 0), (8, .getfield 57, 11, 7, 21, 1, 0), (11, .iload_n 1, 12, 0, 0, 0, 0), (12, .iload_n 2, 13, 0, 0, 0, 0), (13, .iastore, 14, 0, 0, 0, 0), (14, .return_, 15, 0, 0, 0, 0)]
def cd_121 : List mEn := [(0, .aload_n 0, 1, 0, 0, 0, 0), (1, .getfield 42, 4, 7, 16, 1, 0), (4, .iload_n 1, 5, 0, 0, 0, 0), (5, .iaload, 6, 0, 0, 0, 0), (6, .ifCond .ne 5, 9, 11, 0, 0, 0), (9, .iconst 1, 10, 0, 0, 0, 1), (10, .ireturn, 11, 0, 0, 0, 0), (11, .aload_n 0, 12, 0, 0, 0, 0), (12, .getfield 69, 15, 7, 25, 1, 0), (15, .iload_n 1, 16, 0, 0, 0, 0), (16, .dup2, 17, 0, 0, 0, 0), (17, .iaload, 18, 0, 0, 0, 0), (18, .aload_n 0, 19, 0, 0, 0, 0), (19, .getfield 42, 22, 7, 16, 1, 0), (22, .iload_n 1, 23, 0, 0, 0, 0), (23, .iaload, 24, 0, 0, 0, 0), (24, .iadd, 25, 0, 0, 0, 0), (25, .iastore, 26, 0, 0, 0, 0), (26, .aload_n 0, 27, 0, 0, 0, 0), (27, .iload_n 1, 28, 0, 0, 0, 0), (28, .aload_n 0, 29, 0, 0, 0, 0), (29, .getfield 69, 32, 7, 25, 1, 0), (32, .iload_n 1, 33, 0, 0, 0, 0), (33, .iaload, 34, 0, 0, 0, 0), (34, .invokevirtual 196, 37, 120, 3, 0, 0), (37, .aload_n 0, 38, 0, 0, 0, 0), (38, .getfield 45, 41, 7, 17, 1, 0), (41, .iload_n 1, 42, 0, 0, 0, 0), (42, .iaload, 43, 0, 0, 0, 0), (43, .ifCond .le 22, 46, 65, 0, 0, 0), (46, .aload_n 0, 47, 0, 0, 0, 0), (47, .getfield 54, 50, 7, 20, 1, 0), (50, .iload_n 1, 51, 0, 0, 0, 0), (51, .aload_n 0, 52, 0, 0, 0, 0), (52, .getfield 69, 55, 7, 25, 1, 0), (55, .iload_n 1, 56, 0, 0, 0, 0), (56, .iaload, 57, 0, 0, 0, 0), (57, .aload_n 0, 58, 0, 0, 0, 0), (58, .getfield 45, 61, 7, 17, 1, 0), (61, .iload_n 1, 62, 0, 0, 0, 0), (62, .iaload, 63, 0, 0, 0, 0), (63, .iadd, 64, 0, 0, 0, 0), (64, .iastore, 65, 0, 0, 0, 0), (65, .iconst 0, 66, 0, 0, 0, 0), (66, .ireturn, 67, 0, 0, 0, 0)]
def cd_122 : List mEn := [(0, .iload_n 2, 1, 0, 0, 0, 0), (1, .ldc 200, 3, 0, 0, 0, 100001), (3, .invokestatic 134, 6, 101, 2, 0, 0), (6, .ifCond .ne 5, 9, 11, 0, 0, 0), (9, .iconst 1, 10, 0, 0, 0, 1), (10, .ireturn, 11, 0, 0, 0, 0), (11, .aload_n 0, 12, 0, 0, 0, 0), (12, .iload_n 1, 13, 0, 0, 0, 0), (13, .aload_n 0, 14, 0, 0, 0, 0), (14, .getfield 115, 17, 7, 2, 0, 0), (17, .iload_n 2, 18, 0, 0, 0, 0), (18, .iadd, 19, 0, 0, 0, 0), (19, .invokevirtual 196, 22, 120, 3, 0, 0), (22, .iconst 0, 23, 0, 0, 0, 0), (23, .ireturn, 24, 0, 0, 0, 0)]
def cd_123 : List mEn := [(0, .iload_n 2, 1, 0, 0, 0, 0), (1, .aload_n 0, 2, 0, 0, 0, 0), (2, .getfield 26, 5, 7, 11, 1, 0), (5, .iload_n 1, 6, 0, 0, 0, 0), (6, .iaload, 7, 0, 0, 0, 0), (7, .invokestatic 134, 10, 101, 2, 0, 0), (10, .ifCond .eq 17, 13, 27, 0, 0, 0), (13, .aload_n 0, 14, 0, 0, 0, 0), (14, .getfield 51, 17, 7, 19, 1, 0), (17, .bipush 8, 19, 0, 0, 0, 8), (19, .iload_n 1, 20, 0, 0, 0, 0), (20, .imul, 21, 0, 0, 0, 0), (21, .iload_n 2, 22, 0, 0, 0, 0), (22, .iadd, 23, 0, 0, 0, 0), (23, .iaload, 24, 0, 0, 0, 0), (24, .ifCond .eq 5, 27, 29, 0, 0, 0), (27, .iconst 1, 28, 0, 0, 0, 1), (28, .ireturn, 29, 0, 0, 0, 0), (29, .aload_n 0, 30, 0, 0, 0, 0), (30, .bipush 8, 32, 0, 0, 0, 8), (32, .iload_n 1, 33, 0, 0, 0, 0), (33, .imul, 34, 0, 0, 0, 0), (34, .iload_n 2, 35, 0, 0, 0, 0), (35, .iadd, 36, 0, 0, 0, 0), (36, .invokevirtual 122, 39, 103, 2, 0, 0), (39, .iconst 0, 40, 0, 0, 0, 0), (40, .ireturn, 41, 0, 0, 0, 0)]
def cd_124 : List mEn := [(0, .iload_n 2, 1, 0, 0, 0, 0), (1, .aload_n 0, 2, 0, 0, 0, 0), (2, .getfield 26, 5, 7, 11, 1, 0), (5, .iload_n 1, 6, 0, 0, 0, 0), (6, .iaload, 7, 0, 0, 0, 0), (7, .invokestatic 134, 10, 101, 2, 0, 0), (10, .ifCond .eq 12, 13, 22, 0, 0, 0), (13, .iload_n 3, 14, 0, 0, 0, 0), (14, .bipush 16, 16, 0, 0, 0, 16), (16, .invokestatic 134, 19, 101, 2, 0, 0), (19, .ifCond .ne 5, 22, 24, 0, 0, 0), (22, .iconst 1, 23, 0, 0, 0, 1), (23, .ireturn, 24, 0, 0, 0, 0), (24, .aload_n 0, 25, 0, 0, 0, 0), (25, .getfield 39, 28, 7, 15, 1, 0), (28, .bipush 8, 30, 0, 0, 0, 8), (30, .iload_n 1, 31, 0, 0, 0, 0), (31, .imul, 32, 0, 0, 0, 0), (32, .iload_n 2, 33, 0, 0, 0, 0), (33, .iadd, 34, 0, 0, 0, 0), (34, .iload_n 3, 35, 0, 0, 0, 0), (35, .iastore, 36, 0, 0, 0, 0), (36, .iconst 0, 37, 0, 0, 0, 0), (37, .ireturn, 38, 0, 0, 0, 0)]
def cd_125 : List mEn := [(0, .iload_n 3, 1, 0, 0, 0, 0), (1, .iconst 4, 2, 0, 0, 0, 4), (2, .invokestatic 134, 5, 101, 2, 0, 0), (5, .ifCond .ne 5, 8, 10, 0, 0, 0), (8, .iconst 1, 9, 0, 0, 0, 1), (9, .ireturn, 10, 0, 0, 0, 0), (10, .aload_n 0, 11, 0, 0, 0, 0), (11, .getfield 23, 14, 7, 10, 1, 0), (14, .iconst 4, 15, 0, 0, 0, 4), (15, .iload_n 1, 16, 0, 0, 0, 0), (16, .imul, 17, 0, 0, 0, 0), (17, .iload_n 3, 18, 0, 0, 0, 0), (18, .iadd, 19, 0, 0, 0, 0), (19, .iaload, 20, 0, 0, 0, 0), (20, .ifCond .le 19, 23, 39, 0, 0, 0), (23, .aload_n 0, 24, 0, 0, 0, 0), (24, .getfield 23, 27, 7, 10, 1, 0), (27, .iconst 4, 28, 0, 0, 0, 4), (28, .iload_n 1, 29, 0, 0, 0, 0), (29, .imul, 30, 0, 0, 0, 0), (30, .iload_n 3, 31, 0, 0, 0, 0), (31, .iadd, 32, 0, 0, 0, 0), (32, .dup2, 33, 0, 0, 0, 0), (33, .iaload, 34, 0, 0, 0, 0), (34, .iconst 1, 35, 0, 0, 0, 1), (35, .isub, 36, 0, 0, 0, 0), (36, .iastore, 37, 0, 0, 0, 0), (37, .iconst 0, 38, 0, 0, 0, 0), (38, .ireturn, 39, 0, 0, 0, 0), (39, .aload_n 0, 40, 0, 0, 0, 0), (40, .getfield 51, 43, 7, 19, 1, 0), (43, .iload_n 2, 44, 0, 0, 0, 0), (44, .iconst 3, 45, 0, 0, 0, 3), (45, .iastore, 46, 0, 0, 0, 0), (46, .aload_n 0, 47, 0, 0, 0, 0), (47, .getfield 60, 50, 7, 22, 1, 0), (50, .iload_n 2, 51, 0, 0, 0, 0), (51, .iload_n 3, 52, 0, 0, 0, 0), (52, .iastore, 53, 0, 0, 0, 0), (53, .aload_n 0, 54, 0, 0, 0, 0), (54, .getfield 63, 57, 7, 23, 1, 0), (57, .iload_n 2, 58, 0, 0, 0, 0), (58, .aload_n 0, 59, 0, 0, 0, 0), (59, .getfield 112, 62, 7, 27, 0, 0), (62, .iastore, 63, 0, 0, 0, 0), (63, .aload_n 0, 64, 0, 0, 0, 0), (64, .dup, 65, 0, 0, 0, 0), (65, .getfield 112, 68, 7, 27, 0, 0), (68, .iconst 1, 69, 0, 0, 0, 1), (69, .iadd, 70, 0, 0, 0, 0), (70, .putfield 112, 73, 7, 27, 0, 0), (73, .iconst 0, 74, 0, 0, 0, 0), (74, .ireturn, 75, 0, 0, 0, 0)]
def cd_126 : List mEn := [(0, .iload_n 2, 1, 0, 0, 0, 0), (1, .iconst 4, 2, 0, 0, 0, 4), (2, .invokestatic 134, 5, 101, 2, 0, 0), (5, .ifCond .ne 5, 8, 10, 0, 0, 0), (8, .iconst 1, 9, 0, 0, 0, 1), (9, .ireturn, 10, 0, 0, 0, 0), (10, .iconst (-1), 11, 0, 0, 0, -1), (11, .istore_n 3, 12, 0, 0, 0, 0), (12, .iconst 0, 13, 0, 0, 0, 0), (13, .istore 4, 15, 0, 0, 0, 0), (15, .iload 4, 17, 0, 0, 0, 0), (17, .aload_n 0, 18, 0, 0, 0, 0), (18, .getfield 26, 21, 7, 11, 1, 0), (21, .iload_n 1, 22, 0, 0, 0, 0), (22, .iaload, 23, 0, 0, 0, 0), (23, .if_icmp .ge 99, 26, 122, 0, 0, 0), (26, .bipush 8, 28, 0, 0, 0, 8), (28, .iload_n 1, 29, 0, 0, 0, 0), (29, .imul, 30, 0, 0, 0, 0), (30, .iload 4, 32, 0, 0, 0, 0), (32, .iadd, 33, 0, 0, 0, 0), (33, .istore 5, 35, 0, 0, 0, 0), (35, .aload_n 0, 36, 0, 0, 0, 0), (36, .getfield 51, 39, 7, 19, 1, 0), (39, .iload 5, 41, 0, 0, 0, 0), (41, .iaload, 42, 0, 0, 0, 0), (42, .iconst 3, 43, 0, 0, 0, 3), (43, .if_icmp .ne 73, 46, 116, 0, 0, 0), (46, .aload_n 0, 47, 0, 0, 0, 0), (47, .getfield 60, 50, 7, 22, 1, 0), (50, .iload 5, 52, 0, 0, 0, 0), (52, .iaload, 53, 0, 0, 0, 0), (53, .iload_n 2, 54, 0, 0, 0, 0), (54, .if_icmp .eq 6, 57, 60, 0, 0, 0), (57, .goto 59, 60, 116, 0, 0, 0), (60, .iload_n 3, 61, 0, 0, 0, 0), (61, .iconst (-1), 62, 0, 0, 0, -1), (62, .if_icmp .eq 51, 65, 113, 0, 0, 0), (65, .aload_n 0, 66, 0, 0, 0, 0), (66, .getfield 39, 69, 7, 15, 1, 0), (69, .iload 5, 71, 0, 0, 0, 0), (71, .iaload, 72, 0, 0, 0, 0), (72, .aload_n 0, 73, 0, 0, 0, 0), (73, .getfield 39, 76, 7, 15, 1, 0), (76, .iload_n 3, 77, 0, 0, 0, 0), (77, .iaload, 78, 0, 0, 0, 0), (78, .if_icmp .gt 35, 81, 113, 0, 0, 0), (81, .aload_n 0, 82, 0, 0, 0, 0), (82, .getfield 39, 85, 7, 15, 1, 0), (85, .iload 5, 87, 0, 0, 0, 0), (87, .iaload, 88, 0, 0, 0, 0), (88, .aload_n 0, 89, 0, 0, 0, 0), (89, .getfield 39, 92, 7, 15, 1, 0), (92, .iload_n 3, 93, 0, 0, 0, 0), (93, .iaload, 94, 0, 0, 0, 0), (94, .if_icmp .ne 22, 97, 116, 0, 0, 0), (97, .aload_n 0, 98, 0, 0, 0, 0), (98, .getfield 63, 101, 7, 23, 1, 0), (101, .iload 5, 103, 0, 0, 0, 0), (103, .iaload, 104, 0, 0, 0, 0), (104, .aload_n 0, 105, 0, 0, 0, 0), (105, .getfield 63, 108, 7, 23, 1, 0), (108, .iload_n 3, 109, 0, 0, 0, 0), (109, .iaload, 110, 0, 0, 0, 0), (110, .if_icmp .ge 6, 113, 116, 0, 0, 0), (113, .iload 5, 115, 0, 0, 0, 0), (115, .istore_n 3, 116, 0, 0, 0, 0), (116, .iinc 4 1, 119, 0, 0, 0, 1), (119, .goto (-104), 122, 15, 0, 0, 0), (122, .iload_n 3, 123, 0, 0, 0, 0), (123, .iconst (-1), 124, 0, 0, 0, -1), (124, .if_icmp .eq 10, 127, 134, 0, 0, 0), (127, .aload_n 0, 128, 0, 0, 0, 0), (128, .iload_n 3, 129, 0, 0, 0, 0), (129, .invokevirtual 118, 132, 102, 2, 0, 0), (132, .iconst 0, 133, 0, 0, 0, 0), (133, .ireturn, 134, 0, 0, 0, 0), (134, .aload_n 0, 135, 0, 0, 0, 0), (135, .getfield 23, 138, 7, 10, 1, 0), (138, .iconst 4, 139, 0, 0, 0, 4), (139, .iload_n 1, 140, 0, 0, 0, 0), (140, .imul, 141, 0, 0, 0, 0), (141, .iload_n 2, 142, 0, 0, 0, 0), (142, .iadd, 143, 0, 0, 0, 0), (143, .iaload, 144, 0, 0, 0, 0), (144, .sipush 1000, 147, 0, 0, 0, 1000), (147, .if_icmp .ne 5, 150, 152, 0, 0, 0), (150, .iconst 1, 151, 0, 0, 0, 1), (151, .ireturn, 152, 0, 0, 0, 0), (152, .aload_n 0, 153, 0, 0, 0, 0), (153, .getfield 23, 156, 7, 10, 1, 0), (156, .iconst 4, 157, 0, 0, 0, 4), (157, .iload_n 1, 158, 0, 0, 0, 0), (158, .imul, 159, 0, 0, 0, 0), (159, .iload_n 2, 160, 0, 0, 0, 0), (160, .iadd, 161, 0, 0, 0, 0), (161, .dup2, 162, 0, 0, 0, 0), (162, .iaload, 163, 0, 0, 0, 0), (163, .iconst 1, 164, 0, 0, 0, 1), (164, .iadd, 165, 0, 0, 0, 0), (165, .iastore, 166, 0, 0, 0, 0), (166, .iconst 0, 167, 0, 0, 0, 0), (167, .ireturn, 168, 0, 0, 0, 0)]
def cd_127 : List mEn := [(0, .iload_n 2, 1, 0, 0, 0, 0), (1, .aload_n 0, 2, 0, 0, 0, 0), (2, .getfield 201, 5, 7, 28, 0, 0), (5, .invokestatic 134, 8, 101, 2, 0, 0), (8, .ifCond .eq 13, 11, 21, 0, 0, 0), (11, .aload_n 0, 12, 0, 0, 0, 0), (12, .getfield 78, 15, 7, 30, 1, 0), (15, .iload_n 2, 16, 0, 0, 0, 0), (16, .iaload, 17, 0, 0, 0, 0), (17, .iload_n 1, 18, 0, 0, 0, 0), (18, .if_icmp .eq 5, 21, 23, 0, 0, 0), (21, .iconst 1, 22, 0, 0, 0, 1), (22, .ireturn, 23, 0, 0, 0, 0), (23, .aload_n 0, 24, 0, 0, 0, 0), (24, .getfield 75, 27, 7, 29, 1, 0), (27, .iload_n 2, 28, 0, 0, 0, 0), (28, .baload, 29, 0, 0, 0, 0), (29, .ifCond .ne 32, 32, 61, 0, 0, 0), (32, .aload_n 0, 33, 0, 0, 0, 0), (33, .getfield 93, 36, 7, 35, 1, 0), (36, .bipush 8, 38, 0, 0, 0, 8), (38, .iload_n 2, 39, 0, 0, 0, 0), (39, .imul, 40, 0, 0, 0, 0), (40, .iload_n 3, 41, 0, 0, 0, 0), (41, .iastore, 42, 0, 0, 0, 0), (42, .aload_n 0, 43, 0, 0, 0, 0), (43, .getfield 87, 46, 7, 33, 1, 0), (46, .iload_n 2, 47, 0, 0, 0, 0), (47, .iconst 1, 48, 0, 0, 0, 1), (48, .iastore, 49, 0, 0, 0, 0), (49, .aload_n 0, 50, 0, 0, 0, 0), (50, .getfield 90, 53, 7, 34, 1, 0), (53, .iload_n 2, 54, 0, 0, 0, 0), (54, .aload_n 0, 55, 0, 0, 0, 0), (55, .getfield 115, 58, 7, 2, 0, 0), (58, .iastore, 59, 0, 0, 0, 0), (59, .iconst 0, 60, 0, 0, 0, 0), (60, .ireturn, 61, 0, 0, 0, 0), (61, .aload_n 0, 62, 0, 0, 0, 0), (62, .getfield 87, 65, 7, 33, 1, 0), (65, .iload_n 2, 66, 0, 0, 0, 0), (66, .iaload, 67, 0, 0, 0, 0), (67, .aload_n 0, 68, 0, 0, 0, 0), (68, .getfield 84, 71, 7, 32, 1, 0), (71, .iload_n 2, 72, 0, 0, 0, 0), (72, .iaload, 73, 0, 0, 0, 0), (73, .if_icmp .ne 5, 76, 78, 0, 0, 0), (76, .iconst 2, 77, 0, 0, 0, 2), (77, .ireturn, 78, 0, 0, 0, 0), (78, .aload_n 0, 79, 0, 0, 0, 0), (79, .getfield 93, 82, 7, 35, 1, 0), (82, .bipush 8, 84, 0, 0, 0, 8), (84, .iload_n 2, 85, 0, 0, 0, 0), (85, .imul, 86, 0, 0, 0, 0), (86, .aload_n 0, 87, 0, 0, 0, 0), (87, .getfield 87, 90, 7, 33, 1, 0), (90, .iload_n 2, 91, 0, 0, 0, 0), (91, .iaload, 92, 0, 0, 0, 0), (92, .iadd, 93, 0, 0, 0, 0), (93, .iload_n 3, 94, 0, 0, 0, 0), (94, .iastore, 95, 0, 0, 0, 0), (95, .aload_n 0, 96, 0, 0, 0, 0), (96, .getfield 87, 99, 7, 33, 1, 0), (99, .iload_n 2, 100, 0, 0, 0, 0), (100, .dup2, 101, 0, 0, 0, 0), (101, .iaload, 102, 0, 0, 0, 0), (102, .iconst 1, 103, 0, 0, 0, 1), (103, .iadd, 104, 0, 0, 0, 0), (104, .iastore, 105, 0, 0, 0, 0), (105, .iconst 0, 106, 0, 0, 0, 0), (106, .ireturn, 107, 0, 0, 0, 0)]
def cd_128 : List mEn := [(0, .iload_n 3, 1, 0, 0, 0, 0), (1, .aload_n 0, 2, 0, 0, 0, 0), (2, .getfield 201, 5, 7, 28, 0, 0), (5, .invokestatic 134, 8, 101, 2, 0, 0), (8, .ifCond .eq 13, 11, 21, 0, 0, 0), (11, .aload_n 0, 12, 0, 0, 0, 0), (12, .getfield 81, 15, 7, 31, 1, 0), (15, .iload_n 3, 16, 0, 0, 0, 0), (16, .iaload, 17, 0, 0, 0, 0), (17, .iload_n 1, 18, 0, 0, 0, 0), (18, .if_icmp .eq 5, 21, 23, 0, 0, 0), (21, .iconst 1, 22, 0, 0, 0, 1), (22, .ireturn, 23, 0, 0, 0, 0), (23, .aload_n 0, 24, 0, 0, 0, 0), (24, .getfield 87, 27, 7, 33, 1, 0), (27, .iload_n 3, 28, 0, 0, 0, 0), (28, .iaload, 29, 0, 0, 0, 0), (29, .ifCond .ne 5, 32, 34, 0, 0, 0), (32, .iconst 2, 33, 0, 0, 0, 2), (33, .ireturn, 34, 0, 0, 0, 0), (34, .aload_n 0, 35, 0, 0, 0, 0), (35, .getfield 72, 38, 7, 26, 1, 0), (38, .bipush 32, 40, 0, 0, 0, 32), (40, .iload_n 2, 41, 0, 0, 0, 0), (41, .imul, 42, 0, 0, 0, 0), (42, .bipush 11, 44, 0, 0, 0, 11), (44, .iadd, 45, 0, 0, 0, 0), (45, .aload_n 0, 46, 0, 0, 0, 0), (46, .getfield 93, 49, 7, 35, 1, 0), (49, .bipush 8, 51, 0, 0, 0, 8), (51, .iload_n 3, 52, 0, 0, 0, 0), (52, .imul, 53, 0, 0, 0, 0), (53, .iaload, 54, 0, 0, 0, 0), (54, .iastore, 55, 0, 0, 0, 0), (55, .aload_n 0, 56, 0, 0, 0, 0), (56, .getfield 75, 59, 7, 29, 1, 0), (59, .iload_n 3, 60, 0, 0, 0, 0), (60, .baload, 61, 0, 0, 0, 0), (61, .ifCond .ne 29, 64, 90, 0, 0, 0), (64, .aload_n 0, 65, 0, 0, 0, 0), (65, .getfield 115, 68, 7, 2, 0, 0), (68, .aload_n 0, 69, 0, 0, 0, 0), (69, .getfield 90, 72, 7, 34, 1, 0), (72, .iload_n 3, 73, 0, 0, 0, 0), (73, .iaload, 74, 0, 0, 0, 0), (74, .isub, 75, 0, 0, 0, 0), (75, .aload_n 0, 76, 0, 0, 0, 0), (76, .getfield 84, 79, 7, 32, 1, 0), (79, .iload_n 3, 80, 0, 0, 0, 0), (80, .iaload, 81, 0, 0, 0, 0), (81, .if_icmp .gt 7, 84, 88, 0, 0, 0), (84, .iconst 0, 85, 0, 0, 0, 0), (85, .goto 4, 88, 89, 0, 0, 0), (88, .iconst 3, 89, 0, 0, 0, 3), (89, .ireturn, 90, 0, 0, 0, 0), (90, .aload_n 0, 91, 0, 0, 0, 0), (91, .getfield 87, 94, 7, 33, 1, 0), (94, .iload_n 3, 95, 0, 0, 0, 0), (95, .dup2, 96, 0, 0, 0, 0), (96, .iaload, 97, 0, 0, 0, 0), (97, .iconst 1, 98, 0, 0, 0, 1), (98, .isub, 99, 0, 0, 0, 0), (99, .iastore, 100, 0, 0, 0, 0), (100, .iconst 0, 101, 0, 0, 0, 0), (101, .istore 4, 103, 0, 0, 0, 0), (103, .iload 4, 105, 0, 0, 0, 0), (105, .aload_n 0, 106, 0, 0, 0, 0), (106, .getfield 87, 109, 7, 33, 1, 0), (109, .iload_n 3, 110, 0, 0, 0, 0), (110, .iaload, 111, 0, 0, 0, 0), (111, .if_icmp .ge 35, 114, 146, 0, 0, 0), (114, .aload_n 0, 115, 0, 0, 0, 0), (115, .getfield 93, 118, 7, 35, 1, 0), (118, .bipush 8, 120, 0, 0, 0, 8), (120, .iload_n 3, 121, 0, 0, 0, 0), (121, .imul, 122, 0, 0, 0, 0), (122, .iload 4, 124, 0, 0, 0, 0), (124, .iadd, 125, 0, 0, 0, 0), (125, .aload_n 0, 126, 0, 0, 0, 0), (126, .getfield 93, 129, 7, 35, 1, 0), (129, .bipush 8, 131, 0, 0, 0, 8), (131, .iload_n 3, 132, 0, 0, 0, 0), (132, .imul, 133, 0, 0, 0, 0), (133, .iload 4, 135, 0, 0, 0, 0), (135, .iadd, 136, 0, 0, 0, 0), (136, .iconst 1, 137, 0, 0, 0, 1), (137, .iadd, 138, 0, 0, 0, 0), (138, .iaload, 139, 0, 0, 0, 0), (139, .iastore, 140, 0, 0, 0, 0), (140, .iinc 4 1, 143, 0, 0, 0, 1), (143, .goto (-40), 146, 103, 0, 0, 0), (146, .iconst 0, 147, 0, 0, 0, 0), (147, .ireturn, 148, 0, 0, 0, 0)]
def cd_129 : List mEn := [(0, .aload_n 0, 1, 0, 0, 0, 0), (1, .getfield 72, 4, 7, 26, 1, 0), (4, .bipush 32, 6, 0, 0, 0, 32), (6, .iload_n 2, 7, 0, 0, 0, 0), (7, .imul, 8, 0, 0, 0, 0), (8, .bipush 10, 10, 0, 0, 0, 10), (10, .iadd, 11, 0, 0, 0, 0), (11, .iaload, 12, 0, 0, 0, 0), (12, .istore_n 3, 13, 0, 0, 0, 0), (13, .aload_n 0, 14, 0, 0, 0, 0), (14, .getfield 72, 17, 7, 26, 1, 0), (17, .bipush 32, 19, 0, 0, 0, 32), (19, .iload_n 2, 20, 0, 0, 0, 0), (20, .imul, 21, 0, 0, 0, 0), (21, .bipush 11, 23, 0, 0, 0, 11), (23, .iadd, 24, 0, 0, 0, 0), (24, .iaload, 25, 0, 0, 0, 0), (25, .istore 4, 27, 0, 0, 0, 0), (27, .aload_n 0, 28, 0, 0, 0, 0), (28, .getfield 72, 31, 7, 26, 1, 0), (31, .bipush 32, 33, 0, 0, 0, 32), (33, .iload_n 2, 34, 0, 0, 0, 0), (34, .imul, 35, 0, 0, 0, 0), (35, .bipush 17, 37, 0, 0, 0, 17), (37, .iadd, 38, 0, 0, 0, 0), (38, .iaload, 39, 0, 0, 0, 0), (39, .istore 5, 41, 0, 0, 0, 0), (41, .iload 5, 43, 0, 0, 0, 0), (43, .bipush 10, 45, 0, 0, 0, 10), (45, .if_icmp .ne 5, 48, 50, 0, 0, 0), (48, .iconst 3, 49, 0, 0, 0, 3), (49, .ireturn, 50, 0, 0, 0, 0), (50, .iload 5, 52, 0, 0, 0, 0), (52, .ifCond .lt 10, 55, 62, 0, 0, 0), (55, .iload 5, 57, 0, 0, 0, 0), (57, .bipush 10, 59, 0, 0, 0, 10), (59, .if_icmp .le 5, 62, 64, 0, 0, 0), (62, .iconst 0, 63, 0, 0, 0, 0), (63, .ireturn, 64, 0, 0, 0, 0), (64, .aload_n 0, 65, 0, 0, 0, 0), (65, .getfield 48, 68, 7, 18, 1, 0), (68, .iload_n 2, 69, 0, 0, 0, 0), (69, .dup2, 70, 0, 0, 0, 0), (70, .iaload, 71, 0, 0, 0, 0), (71, .iconst 4, 72, 0, 0, 0, 4), (72, .iadd, 73, 0, 0, 0, 0), (73, .iastore, 74, 0, 0, 0, 0), (74, .aload_n 0, 75, 0, 0, 0, 0), (75, .aload_n 0, 76, 0, 0, 0, 0), (76, .getfield 48, 79, 7, 18, 1, 0), (79, .iload_n 2, 80, 0, 0, 0, 0), (80, .iaload, 81, 0, 0, 0, 0), (81, .putfield 168, 84, 7, 41, 0, 0), (84, .iload 5, 86, 0, 0, 0, 0), (86, .ifCond .ne 10, 89, 96, 0, 0, 0), (89, .aload_n 0, 90, 0, 0, 0, 0), (90, .iload_n 2, 91, 0, 0, 0, 0), (91, .invokevirtual 128, 94, 104, 2, 0, 0), (94, .iconst (-1), 95, 0, 0, 0, -1), (95, .ireturn, 96, 0, 0, 0, 0), (96, .iload 5, 98, 0, 0, 0, 0), (98, .iconst 1, 99, 0, 0, 0, 1), (99, .if_icmp .ne 11, 102, 110, 0, 0, 0), (102, .aload_n 0, 103, 0, 0, 0, 0), (103, .iload_n 2, 104, 0, 0, 0, 0), (104, .invokevirtual 204, 107, 121, 2, 0, 0), (107, .goto 121, 110, 228, 0, 0, 0), (110, .iload 5, 112, 0, 0, 0, 0), (112, .iconst 2, 113, 0, 0, 0, 2), (113, .if_icmp .ne 12, 116, 125, 0, 0, 0), (116, .aload_n 0, 117, 0, 0, 0, 0), (117, .iload_n 2, 118, 0, 0, 0, 0), (118, .iload_n 3, 119, 0, 0, 0, 0), (119, .invokevirtual 207, 122, 122, 3, 0, 0), (122, .goto 106, 125, 228, 0, 0, 0), (125, .iload 5, 127, 0, 0, 0, 0), (127, .iconst 3, 128, 0, 0, 0, 3), (128, .if_icmp .ne 12, 131, 140, 0, 0, 0), (131, .aload_n 0, 132, 0, 0, 0, 0), (132, .iload_n 1, 133, 0, 0, 0, 0), (133, .iload_n 3, 134, 0, 0, 0, 0), (134, .invokevirtual 210, 137, 123, 3, 0, 0), (137, .goto 91, 140, 228, 0, 0, 0), (140, .iload 5, 142, 0, 0, 0, 0), (142, .iconst 4, 143, 0, 0, 0, 4), (143, .if_icmp .ne 14, 146, 157, 0, 0, 0), (146, .aload_n 0, 147, 0, 0, 0, 0), (147, .iload_n 1, 148, 0, 0, 0, 0), (148, .iload_n 3, 149, 0, 0, 0, 0), (149, .iload 4, 151, 0, 0, 0, 0), (151, .invokevirtual 213, 154, 124, 4, 0, 0), (154, .goto 74, 157, 228, 0, 0, 0), (157, .iload 5, 159, 0, 0, 0, 0), (159, .iconst 5, 160, 0, 0, 0, 5), (160, .if_icmp .ne 10, 163, 170, 0, 0, 0), (163, .aload_n 0, 164, 0, 0, 0, 0), (164, .getfield 115, 167, 7, 2, 0, 0), (167, .goto 61, 170, 228, 0, 0, 0), (170, .iload 5, 172, 0, 0, 0, 0), (172, .bipush 6, 174, 0, 0, 0, 6), (174, .if_icmp .ne 13, 177, 187, 0, 0, 0), (177, .aload_n 0, 178, 0, 0, 0, 0), (178, .iload_n 1, 179, 0, 0, 0, 0), (179, .iload_n 2, 180, 0, 0, 0, 0), (180, .iload_n 3, 181, 0, 0, 0, 0), (181, .invokevirtual 216, 184, 125, 4, 0, 0), (184, .goto 44, 187, 228, 0, 0, 0), (187, .iload 5, 189, 0, 0, 0, 0), (189, .bipush 7, 191, 0, 0, 0, 7), (191, .if_icmp .ne 12, 194, 203, 0, 0, 0), (194, .aload_n 0, 195, 0, 0, 0, 0), (195, .iload_n 1, 196, 0, 0, 0, 0), (196, .iload_n 3, 197, 0, 0, 0, 0), (197, .invokevirtual 219, 200, 126, 3, 0, 0), (200, .goto 28, 203, 228, 0, 0, 0), (203, .iload 5, 205, 0, 0, 0, 0), (205, .bipush 8, 207, 0, 0, 0, 8), (207, .if_icmp .ne 14, 210, 221, 0, 0, 0), (210, .aload_n 0, 211, 0, 0, 0, 0), (211, .iload_n 1, 212, 0, 0, 0, 0), (212, .iload_n 3, 213, 0, 0, 0, 0), (213, .iload 4, 215, 0, 0, 0, 0), (215, .invokevirtual 221, 218, 127, 4, 0, 0), (218, .goto 10, 221, 228, 0, 0, 0), (221, .aload_n 0, 222, 0, 0, 0, 0), (222, .iload_n 1, 223, 0, 0, 0, 0), (223, .iload_n 2, 224, 0, 0, 0, 0), (224, .iload_n 3, 225, 0, 0, 0, 0), (225, .invokevirtual 224, 228, 128, 4, 0, 0), (228, .istore 6, 230, 0, 0, 0, 0), (230, .aload_n 0, 231, 0, 0, 0, 0), (231, .getfield 72, 234, 7, 26, 1, 0), (234, .bipush 32, 236, 0, 0, 0, 32), (236, .iload_n 2, 237, 0, 0, 0, 0), (237, .imul, 238, 0, 0, 0, 0), (238, .bipush 10, 240, 0, 0, 0, 10), (240, .iadd, 241, 0, 0, 0, 0), (241, .iload 6, 243, 0, 0, 0, 0), (243, .iastore, 244, 0, 0, 0, 0), (244, .iconst (-1), 245, 0, 0, 0, -1), (245, .ireturn, 246, 0, 0, 0, 0)]
def cd_130 : List mEn := [(0, .aload_n 0, 1, 0, 0, 0, 0), (1, .getfield 115, 4, 7, 2, 0, 0), (4, .aload_n 0, 5, 0, 0, 0, 0), (5, .getfield 227, 8, 7, 4, 0, 0), (8, .irem, 9, 0, 0, 0, 0), (9, .istore_n 1, 10, 0, 0, 0, 0), (10, .iconst 0, 11, 0, 0, 0, 0), (11, .istore_n 2, 12, 0, 0, 0, 0), (12, .iload_n 1, 13, 0, 0, 0, 0), (13, .aload_n 0, 14, 0, 0, 0, 0), (14, .getfield 13, 17, 7, 7, 1, 0), (17, .iload_n 2, 18, 0, 0, 0, 0), (18, .iaload, 19, 0, 0, 0, 0), (19, .if_icmp .lt 18, 22, 37, 0, 0, 0), (22, .iload_n 1, 23, 0, 0, 0, 0), (23, .aload_n 0, 24, 0, 0, 0, 0), (24, .getfield 13, 27, 7, 7, 1, 0), (27, .iload_n 2, 28, 0, 0, 0, 0), (28, .iaload, 29, 0, 0, 0, 0), (29, .isub, 30, 0, 0, 0, 0), (30, .istore_n 1, 31, 0, 0, 0, 0), (31, .iinc 2 1, 34, 0, 0, 0, 1), (34, .goto (-22), 37, 12, 0, 0, 0), (37, .aload_n 0, 38, 0, 0, 0, 0), (38, .getfield 7, 41, 7, 6, 1, 0), (41, .iload_n 2, 42, 0, 0, 0, 0), (42, .iaload, 43, 0, 0, 0, 0), (43, .ireturn, 44, 0, 0, 0, 0)]
def cd_131 : List mEn := [(0, .iconst 1, 1, 0, 0, 0, 1), (1, .istore_n 2, 2, 0, 0, 0, 0), (2, .iload_n 2, 3, 0, 0, 0, 0), (3, .ifCond .eq 106, 6, 109, 0, 0, 0), (6, .iconst (-1), 7, 0, 0, 0, -1), (7, .istore_n 3, 8, 0, 0, 0, 0), (8, .iconst 0, 9, 0, 0, 0, 0), (9, .istore 4, 11, 0, 0, 0, 0), (11, .iload 4, 13, 0, 0, 0, 0), (13, .aload_n 0, 14, 0, 0, 0, 0), (14, .getfield 26, 17, 7, 11, 1, 0), (17, .iload_n 1, 18, 0, 0, 0, 0), (18, .iaload, 19, 0, 0, 0, 0), (19, .if_icmp .ge 67, 22, 86, 0, 0, 0), (22, .bipush 8, 24, 0, 0, 0, 8), (24, .iload_n 1, 25, 0, 0, 0, 0), (25, .imul, 26, 0, 0, 0, 0), (26, .iload 4, 28, 0, 0, 0, 0), (28, .iadd, 29, 0, 0, 0, 0), (29, .istore 5, 31, 0, 0, 0, 0), (31, .aload_n 0, 32, 0, 0, 0, 0), (32, .getfield 51, 35, 7, 19, 1, 0), (35, .iload 5, 37, 0, 0, 0, 0), (37, .iaload, 38, 0, 0, 0, 0), (38, .iconst 2, 39, 0, 0, 0, 2), (39, .if_icmp .ne 41, 42, 80, 0, 0, 0), (42, .aload_n 0, 43, 0, 0, 0, 0), (43, .getfield 57, 46, 7, 21, 1, 0), (46, .iload 5, 48, 0, 0, 0, 0), (48, .iaload, 49, 0, 0, 0, 0), (49, .aload_n 0, 50, 0, 0, 0, 0), (50, .getfield 115, 53, 7, 2, 0, 0), (53, .if_icmp .gt 27, 56, 80, 0, 0, 0), (56, .iload_n 3, 57, 0, 0, 0, 0), (57, .iconst (-1), 58, 0, 0, 0, -1), (58, .if_icmp .eq 19, 61, 77, 0, 0, 0), (61, .aload_n 0, 62, 0, 0, 0, 0), (62, .getfield 57, 65, 7, 21, 1, 0), (65, .iload 5, 67, 0, 0, 0, 0), (67, .iaload, 68, 0, 0, 0, 0), (68, .aload_n 0, 69, 0, 0, 0, 0), (69, .getfield 57, 72, 7, 21, 1, 0), (72, .iload_n 3, 73, 0, 0, 0, 0), (73, .iaload, 74, 0, 0, 0, 0), (74, .if_icmp .ge 6, 77, 80, 0, 0, 0), (77, .iload 5, 79, 0, 0, 0, 0), (79, .istore_n 3, 80, 0, 0, 0, 0), (80, .iinc 4 1, 83, 0, 0, 0, 1), (83, .goto (-72), 86, 11, 0, 0, 0), (86, .iload_n 3, 87, 0, 0, 0, 0), (87, .iconst (-1), 88, 0, 0, 0, -1), (88, .if_icmp .eq 7, 91, 95, 0, 0, 0), (91, .iconst 1, 92, 0, 0, 0, 1), (92, .goto 4, 95, 96, 0, 0, 0), (95, .iconst 0, 96, 0, 0, 0, 0), (96, .istore_n 2, 97, 0, 0, 0, 0), (97, .iload_n 2, 98, 0, 0, 0, 0), (98, .ifCond .eq 8, 101, 106, 0, 0, 0), (101, .aload_n 0, 102, 0, 0, 0, 0), (102, .iload_n 3, 103, 0, 0, 0, 0), (103, .invokevirtual 118, 106, 102, 2, 0, 0), (106, .goto (-104), 109, 2, 0, 0, 0), (109, .return_, 110, 0, 0, 0, 0)]
def cd_132 : List mEn := [(0, .iconst 0, 1, 0, 0, 0, 0), (1, .istore_n 2, 2, 0, 0, 0, 0), (2, .iload_n 2, 3, 0, 0, 0, 0), (3, .aload_n 0, 4, 0, 0, 0, 0), (4, .getfield 26, 7, 7, 11, 1, 0), (7, .iload_n 1, 8, 0, 0, 0, 0), (8, .iaload, 9, 0, 0, 0, 0), (9, .if_icmp .ge 70, 12, 79, 0, 0, 0), (12, .bipush 8, 14, 0, 0, 0, 8), (14, .iload_n 1, 15, 0, 0, 0, 0), (15, .imul, 16, 0, 0, 0, 0), (16, .iload_n 2, 17, 0, 0, 0, 0), (17, .iadd, 18, 0, 0, 0, 0), (18, .istore_n 3, 19, 0, 0, 0, 0), (19, .aload_n 0, 20, 0, 0, 0, 0), (20, .getfield 51, 23, 7, 19, 1, 0), (23, .iload_n 3, 24, 0, 0, 0, 0), (24, .iaload, 25, 0, 0, 0, 0), (25, .ifCond .eq 48, 28, 73, 0, 0, 0), (28, .aload_n 0, 29, 0, 0, 0, 0), (29, .getfield 54, 32, 7, 20, 1, 0), (32, .iload_n 3, 33, 0, 0, 0, 0), (33, .iaload, 34, 0, 0, 0, 0), (34, .iconst (-1), 35, 0, 0, 0, -1), (35, .if_icmp .eq 38, 38, 73, 0, 0, 0), (38, .aload_n 0, 39, 0, 0, 0, 0), (39, .getfield 54, 42, 7, 20, 1, 0), (42, .iload_n 3, 43, 0, 0, 0, 0), (43, .iaload, 44, 0, 0, 0, 0), (44, .aload_n 0, 45, 0, 0, 0, 0), (45, .getfield 115, 48, 7, 2, 0, 0), (48, .if_icmp .lt 6, 51, 54, 0, 0, 0), (51, .goto 22, 54, 73, 0, 0, 0), (54, .aload_n 0, 55, 0, 0, 0, 0), (55, .getfield 54, 58, 7, 20, 1, 0), (58, .iload_n 3, 59, 0, 0, 0, 0), (59, .iconst (-1), 60, 0, 0, 0, -1), (60, .iastore, 61, 0, 0, 0, 0), (61, .aload_n 0, 62, 0, 0, 0, 0), (62, .iload_n 1, 63, 0, 0, 0, 0), (63, .iload_n 2, 64, 0, 0, 0, 0), (64, .iconst 2, 65, 0, 0, 0, 2), (65, .invokevirtual 230, 68, 106, 4, 0, 0), (68, .ifCond .eq 5, 71, 73, 0, 0, 0), (71, .iconst 1, 72, 0, 0, 0, 1), (72, .ireturn, 73, 0, 0, 2, 0), (73, .iinc 2 1, 76, 0, 0, 0, 1), (76, .goto (-74), 79, 2, 0, 0, 0), (79, .iconst 0, 80, 0, 0, 0, 0), (80, .ireturn, 81, 0, 0, 2, 0)]
def cd_133 : List mEn := [(0, .iconst (-1), 1, 0, 0, 0, -1), (1, .istore_n 2, 2, 0, 0, 0, 0), (2, .iconst 0, 3, 0, 0, 0, 0), (3, .istore_n 3, 4, 0, 0, 0, 0), (4, .iload_n 3, 5, 0, 0, 0, 0), (5, .aload_n 0, 6, 0, 0, 0, 0), (6, .getfield 26, 9, 7, 11, 1, 0), (9, .iload_n 1, 10, 0, 0, 0, 0), (10, .iaload, 11, 0, 0, 0, 0), (11, .if_icmp .ge 87, 14, 98, 0, 0, 0), (14, .bipush 8, 16, 0, 0, 0, 8), (16, .iload_n 1, 17, 0, 0, 0, 0), (17, .imul, 18, 0, 0, 0, 0), (18, .iload_n 3, 19, 0, 0, 0, 0), (19, .iadd, 20, 0, 0, 0, 0), (20, .istore 4, 22, 0, 0, 0, 0), (22, .aload_n 0, 23, 0, 0, 0, 0), (23, .getfield 51, 26, 7, 19, 1, 0), (26, .iload 4, 28, 0, 0, 0, 0), (28, .iaload, 29, 0, 0, 0, 0), (29, .iconst 1, 30, 0, 0, 0, 1), (30, .if_icmp .eq 6, 33, 36, 0, 0, 0), (33, .goto 59, 36, 92, 0, 0, 0), (36, .iload_n 2, 37, 0, 0, 0, 0), (37, .iconst (-1), 38, 0, 0, 0, -1), (38, .if_icmp .eq 51, 41, 89, 0, 0, 0), (41, .aload_n 0, 42, 0, 0, 0, 0), (42, .getfield 39, 45, 7, 15, 1, 0), (45, .iload 4, 47, 0, 0, 0, 0), (47, .iaload, 48, 0, 0, 0, 0), (48, .aload_n 0, 49, 0, 0, 0, 0), (49, .getfield 39, 52, 7, 15, 1, 0), (52, .iload_n 2, 53, 0, 0, 0, 0), (53, .iaload, 54, 0, 0, 0, 0), (54, .if_icmp .gt 35, 57, 89, 0, 0, 0), (57, .aload_n 0, 58, 0, 0, 0, 0), (58, .getfield 39, 61, 7, 15, 1, 0), (61, .iload 4, 63, 0, 0, 0, 0), (63, .iaload, 64, 0, 0, 0, 0), (64, .aload_n 0, 65, 0, 0, 0, 0), (65, .getfield 39, 68, 7, 15, 1, 0), (68, .iload_n 2, 69, 0, 0, 0, 0), (69, .iaload, 70, 0, 0, 0, 0), (70, .if_icmp .ne 22, 73, 92, 0, 0, 0), (73, .aload_n 0, 74, 0, 0, 0, 0), (74, .getfield 63, 77, 7, 23, 1, 0), (77, .iload 4, 79, 0, 0, 0, 0), (79, .iaload, 80, 0, 0, 0, 0), (80, .aload_n 0, 81, 0, 0, 0, 0), (81, .getfield 63, 84, 7, 23, 1, 0), (84, .iload_n 2, 85, 0, 0, 0, 0), (85, .iaload, 86, 0, 0, 0, 0), (86, .if_icmp .ge 6, 89, 92, 0, 0, 0), (89, .iload 4, 91, 0, 0, 0, 0), (91, .istore_n 2, 92, 0, 0, 0, 0), (92, .iinc 3 1, 95, 0, 0, 0, 1), (95, .goto (-91), 98, 4, 0, 0, 0), (98, .iload_n 2, 99, 0, 0, 0, 0), (99, .ireturn, 100, 0, 0, 0, 0)]
def cd_134 : List mEn := [(0, .aload_n 0, 1, 0, 0, 0, 0), (1, .invokevirtual 233, 4, 130, 1, 0, 0), (4, .istore_n 1, 5, 0, 0, 0, 0), (5, .iconst 0, 6, 0, 0, 0, 0), (6, .istore_n 2, 7, 0, 0, 0, 0), (7, .aload_n 0, 8, 0, 0, 0, 0), (8, .getfield 32, 11, 7, 13, 1, 0), (11, .iload_n 1, 12, 0, 0, 0, 0), (12, .baload, 13, 0, 0, 0, 0), (13, .ifCond .ne 163, 16, 176, 0, 0, 0), (16, .aload_n 0, 17, 0, 0, 0, 0), (17, .iload_n 1, 18, 0, 0, 0, 0), (18, .invokevirtual 237, 21, 131, 2, 0, 0), (21, .aload_n 0, 22, 0, 0, 0, 0), (22, .iload_n 1, 23, 0, 0, 0, 0), (23, .invokevirtual 240, 26, 132, 2, 0, 0), (26, .ifCond .eq 7, 29, 33, 0, 0, 0), (29, .iconst (-1), 30, 0, 0, 0, -1), (30, .goto 8, 33, 38, 0, 0, 0), (33, .aload_n 0, 34, 0, 0, 0, 0), (34, .iload_n 1, 35, 0, 0, 0, 0), (35, .invokevirtual 244, 38, 133, 2, 0, 0), (38, .istore_n 3, 39, 0, 0, 0, 0), (39, .iload_n 3, 40, 0, 0, 0, 0), (40, .iconst (-1), 41, 0, 0, 0, -1), (41, .if_icmp .eq 135, 44, 176, 0, 0, 0), (44, .iconst 1, 45, 0, 0, 0, 1), (45, .istore_n 2, 46, 0, 0, 0, 0), (46, .aload_n 0, 47, 0, 0, 0, 0), (47, .dup, 48, 0, 0, 0, 0), (48, .getfield 247, 51, 7, 5, 0, 0), (51, .iconst 1, 52, 0, 0, 0, 1), (52, .iadd, 53, 0, 0, 0, 0), (53, .putfield 247, 56, 7, 5, 0, 0), (56, .aload_n 0, 57, 0, 0, 0, 0), (57, .getfield 66, 60, 7, 24, 1, 0), (60, .iload_n 3, 61, 0, 0, 0, 0), (61, .dup2, 62, 0, 0, 0, 0), (62, .iaload, 63, 0, 0, 0, 0), (63, .iconst 1, 64, 0, 0, 0, 1), (64, .iadd, 65, 0, 0, 0, 0), (65, .iastore, 66, 0, 0, 0, 0), (66, .aload_n 0, 67, 0, 0, 0, 0), (67, .getfield 48, 70, 7, 18, 1, 0), (70, .iload_n 3, 71, 0, 0, 0, 0), (71, .iaload, 72, 0, 0, 0, 0), (72, .iconst 4, 73, 0, 0, 0, 4), (73, .invokestatic 147, 76, 107, 2, 0, 0), (76, .ifCond .eq 18, 79, 94, 0, 0, 0), (79, .aload_n 0, 80, 0, 0, 0, 0), (80, .iload_n 1, 81, 0, 0, 0, 0), (81, .aload_n 0, 82, 0, 0, 0, 0), (82, .getfield 48, 85, 7, 18, 1, 0), (85, .iload_n 3, 86, 0, 0, 0, 0), (86, .iaload, 87, 0, 0, 0, 0), (87, .iconst 4, 88, 0, 0, 0, 4), (88, .invokevirtual 150, 91, 108, 4, 0, 0), (91, .goto 4, 94, 95, 0, 0, 0), (94, .iconst 0, 95, 0, 0, 0, 0), (95, .istore 4, 97, 0, 0, 0, 0), (97, .aload_n 0, 98, 0, 0, 0, 0), (98, .iload_n 1, 99, 0, 0, 0, 0), (99, .iload_n 3, 100, 0, 0, 0, 0), (100, .invokevirtual 250, 103, 119, 3, 0, 0), (103, .istore 5, 105, 0, 0, 0, 0), (105, .iload 5, 107, 0, 0, 0, 0), (107, .iconst (-1), 108, 0, 0, 0, -1), (108, .if_icmp .eq 18, 111, 126, 0, 0, 0), (111, .aload_n 0, 112, 0, 0, 0, 0), (112, .iload_n 1, 113, 0, 0, 0, 0), (113, .iload_n 3, 114, 0, 0, 0, 0), (114, .bipush 8, 116, 0, 0, 0, 8), (116, .irem, 117, 0, 0, 0, 0), (117, .iload 5, 119, 0, 0, 0, 0), (119, .invokevirtual 230, 122, 106, 4, 0, 0), (122, .pop, 123, 0, 0, 0, 0), (123, .goto 53, 126, 176, 0, 0, 0), (126, .aload_n 0, 127, 0, 0, 0, 0), (127, .getfield 143, 130, 7, 43, 2, 0), (130, .ifCond .eq 36, 133, 166, 0, 0, 0), (133, .iload 4, 135, 0, 0, 0, 0), (135, .bipush 7, 137, 0, 0, 0, 7), (137, .iconst 5, 138, 0, 0, 0, 5), (138, .invokestatic 165, 141, 110, 3, 0, 0), (141, .ifCond .eq 25, 144, 166, 0, 0, 0), (144, .aload_n 0, 145, 0, 0, 0, 0), (145, .getfield 72, 148, 7, 26, 1, 0), (148, .bipush 32, 150, 0, 0, 0, 32), (150, .iload_n 3, 151, 0, 0, 0, 0), (151, .imul, 152, 0, 0, 0, 0), (152, .iload 4, 154, 0, 0, 0, 0), (154, .bipush 7, 156, 0, 0, 0, 7), (156, .iconst 5, 157, 0, 0, 0, 5), (157, .invokestatic 165, 160, 110, 3, 0, 0), (160, .iadd, 161, 0, 0, 0, 0), (161, .aload_n 0, 162, 0, 0, 0, 0), (162, .getfield 140, 165, 7, 42, 0, 0), (165, .iastore, 166, 0, 0, 0, 0), (166, .aload_n 0, 167, 0, 0, 0, 0), (167, .getfield 48, 170, 7, 18, 1, 0), (170, .iload_n 3, 171, 0, 0, 0, 0), (171, .aload_n 0, 172, 0, 0, 0, 0), (172, .getfield 168, 175, 7, 41, 0, 0), (175, .iastore, 176, 0, 0, 0, 0), (176, .aload_n 0, 177, 0, 0, 0, 0), (177, .dup, 178, 0, 0, 0, 0), (178, .getfield 115, 181, 7, 2, 0, 0), (181, .iconst 1, 182, 0, 0, 0, 1), (182, .iadd, 183, 0, 0, 0, 0), (183, .putfield 115, 186, 7, 2, 0, 0), (186, .iload_n 2, 187, 0, 0, 0, 0), (187, .ireturn, 188, 0, 0, 0, 0)]
def cd_135 : List mEn := [(0, .aload_n 0, 1, 0, 0, 0, 0), (1, .iload_n 1, 2, 0, 0, 0, 0), (2, .iconst 4, 3, 0, 0, 0, 4), (3, .invokestatic 134, 6, 101, 2, 0, 0), (6, .ifCond .ne 7, 9, 13, 0, 0, 0), (9, .iconst 1, 10, 0, 0, 0, 1), (10, .goto 39, 13, 49, 0, 0, 0), (13, .iload_n 2, 14, 0, 0, 0, 0), (14, .iconst 1, 15, 0, 0, 0, 1), (15, .if_icmp .lt 9, 18, 24, 0, 0, 0), (18, .iload_n 2, 19, 0, 0, 0, 0), (19, .bipush 100, 21, 0, 0, 0, 100), (21, .if_icmp .le 7, 24, 28, 0, 0, 0), (24, .iconst 2, 25, 0, 0, 0, 2), (25, .goto 24, 28, 49, 0, 0, 0), (28, .aload_n 0, 29, 0, 0, 0, 0), (29, .getfield 253, 32, 7, 1, 2, 0), (32, .ifCond .ne 12, 35, 44, 0, 0, 0), (35, .aload_n 0, 36, 0, 0, 0, 0), (36, .getfield 256, 39, 7, 3, 0, 0), (39, .bipush 8, 41, 0, 0, 0, 8), (41, .if_icmp .ne 7, 44, 48, 0, 0, 0), (44, .iconst 3, 45, 0, 0, 0, 3), (45, .goto 4, 48, 49, 0, 0, 0), (48, .iconst 0, 49, 0, 0, 0, 0), (49, .putfield 108, 52, 7, 0, 0, 0), (52, .aload_n 0, 53, 0, 0, 0, 0), (53, .getfield 108, 56, 7, 0, 0, 0), (56, .ifCond .le 4, 59, 60, 0, 0, 0), (59, .return_, 60, 0, 0, 0, 0), (60, .aload_n 0, 61, 0, 0, 0, 0), (61, .getfield 7, 64, 7, 6, 1, 0), (64, .aload_n 0, 65, 0, 0, 0, 0), (65, .getfield 256, 68, 7, 3, 0, 0), (68, .iload_n 1, 69, 0, 0, 0, 0), (69, .iastore, 70, 0, 0, 0, 0), (70, .aload_n 0, 71, 0, 0, 0, 0), (71, .getfield 13, 74, 7, 7, 1, 0), (74, .aload_n 0, 75, 0, 0, 0, 0), (75, .getfield 256, 78, 7, 3, 0, 0), (78, .iload_n 2, 79, 0, 0, 0, 0), (79, .iastore, 80, 0, 0, 0, 0), (80, .aload_n 0, 81, 0, 0, 0, 0), (81, .dup, 82, 0, 0, 0, 0), (82, .getfield 227, 85, 7, 4, 0, 0), (85, .iload_n 2, 86, 0, 0, 0, 0), (86, .iadd, 87, 0, 0, 0, 0), (87, .putfield 227, 90, 7, 4, 0, 0), (90, .aload_n 0, 91, 0, 0, 0, 0), (91, .dup, 92, 0, 0, 0, 0), (92, .getfield 256, 95, 7, 3, 0, 0), (95, .iconst 1, 96, 0, 0, 0, 1), (96, .iadd, 97, 0, 0, 0, 0), (97, .putfield 256, 100, 7, 3, 0, 0), (100, .return_, 101, 0, 0, 0, 0)]
def cd_136 : List mEn := [(0, .iload_n 1, 1, 0, 0, 0, 0), (1, .istore 6, 3, 0, 0, 0, 0), (3, .aload_n 0, 4, 0, 0, 0, 0), (4, .iload 6, 6, 0, 0, 0, 0), (6, .iconst 4, 7, 0, 0, 0, 4), (7, .invokestatic 134, 10, 101, 2, 0, 0), (10, .ifCond .ne 7, 13, 17, 0, 0, 0), (13, .iconst 1, 14, 0, 0, 0, 1), (14, .goto 60, 17, 74, 0, 0, 0), (17, .iload_n 3, 18, 0, 0, 0, 0), (18, .bipush 16, 20, 0, 0, 0, 16), (20, .invokestatic 134, 23, 101, 2, 0, 0), (23, .ifCond .eq 23, 26, 46, 0, 0, 0), (26, .iload 4, 28, 0, 0, 0, 0), (28, .ldc 200, 30, 0, 0, 0, 100001), (30, .invokestatic 134, 33, 101, 2, 0, 0), (33, .ifCond .eq 13, 36, 46, 0, 0, 0), (36, .iload 5, 38, 0, 0, 0, 0), (38, .ldc 200, 40, 0, 0, 0, 100001), (40, .invokestatic 134, 43, 101, 2, 0, 0), (43, .ifCond .ne 7, 46, 50, 0, 0, 0), (46, .iconst 2, 47, 0, 0, 0, 2), (47, .goto 27, 50, 74, 0, 0, 0), (50, .aload_n 0, 51, 0, 0, 0, 0), (51, .getfield 253, 54, 7, 1, 2, 0), (54, .ifCond .ne 15, 57, 69, 0, 0, 0), (57, .aload_n 0, 58, 0, 0, 0, 0), (58, .getfield 26, 61, 7, 11, 1, 0), (61, .iload 6, 63, 0, 0, 0, 0), (63, .iaload, 64, 0, 0, 0, 0), (64, .bipush 8, 66, 0, 0, 0, 8), (66, .if_icmp .ne 7, 69, 73, 0, 0, 0), (69, .iconst 3, 70, 0, 0, 0, 3), (70, .goto 4, 73, 74, 0, 0, 0), (73, .iconst 0, 74, 0, 0, 0, 0), (74, .putfield 108, 77, 7, 0, 0, 0), (77, .aload_n 0, 78, 0, 0, 0, 0), (78, .getfield 108, 81, 7, 0, 0, 0), (81, .ifCond .le 5, 84, 86, 0, 0, 0), (84, .iconst 0, 85, 0, 0, 0, 0), (85, .ireturn, 86, 0, 0, 0, 0), (86, .bipush 8, 88, 0, 0, 0, 8), (88, .iload 6, 90, 0, 0, 0, 0), (90, .imul, 91, 0, 0, 0, 0), (91, .aload_n 0, 92, 0, 0, 0, 0), (92, .getfield 26, 95, 7, 11, 1, 0), (95, .iload 6, 97, 0, 0, 0, 0), (97, .iaload, 98, 0, 0, 0, 0), (98, .iadd, 99, 0, 0, 0, 0), (99, .istore 7, 101, 0, 0, 0, 0), (101, .aload_n 0, 102, 0, 0, 0, 0), (102, .getfield 36, 105, 7, 14, 1, 0), (105, .iload 7, 107, 0, 0, 0, 0), (107, .iload_n 2, 108, 0, 0, 0, 0), (108, .iastore, 109, 0, 0, 0, 0), (109, .aload_n 0, 110, 0, 0, 0, 0), (110, .getfield 39, 113, 7, 15, 1, 0), (113, .iload 7, 115, 0, 0, 0, 0), (115, .iload_n 3, 116, 0, 0, 0, 0), (116, .iastore, 117, 0, 0, 0, 0), (117, .aload_n 0, 118, 0, 0, 0, 0), (118, .getfield 42, 121, 7, 16, 1, 0), (121, .iload 7, 123, 0, 0, 0, 0), (123, .iload 4, 125, 0, 0, 0, 0), (125, .iastore, 126, 0, 0, 0, 0), (126, .aload_n 0, 127, 0, 0, 0, 0), (127, .getfield 45, 130, 7, 17, 1, 0), (130, .iload 7, 132, 0, 0, 0, 0), (132, .iload 5, 134, 0, 0, 0, 0), (134, .iastore, 135, 0, 0, 0, 0), (135, .aload_n 0, 136, 0, 0, 0, 0), (136, .getfield 26, 139, 7, 11, 1, 0), (139, .iload 6, 141, 0, 0, 0, 0), (141, .dup2, 142, 0, 0, 0, 0), (142, .iaload, 143, 0, 0, 0, 0), (143, .iconst 1, 144, 0, 0, 0, 1), (144, .iadd, 145, 0, 0, 0, 0), (145, .iastore, 146, 0, 0, 0, 0), (146, .aload_n 0, 147, 0, 0, 0, 0), (147, .getfield 26, 150, 7, 11, 1, 0), (150, .iload 6, 152, 0, 0, 0, 0), (152, .iaload, 153, 0, 0, 0, 0), (153, .iconst 1, 154, 0, 0, 0, 1), (154, .isub, 155, 0, 0, 0, 0), (155, .ireturn, 156, 0, 0, 0, 0)]
def cd_137 : List mEn := [(0, .aload_n 0, 1, 0, 0, 0, 0), (1, .iload_n 2, 2, 0, 0, 0, 0), (2, .iconst 4, 3, 0, 0, 0, 4), (3, .invokestatic 134, 6, 101, 2, 0, 0), (6, .ifCond .eq 11, 9, 17, 0, 0, 0), (9, .iload_n 3, 10, 0, 0, 0, 0), (10, .iconst 4, 11, 0, 0, 0, 4), (11, .invokestatic 134, 14, 101, 2, 0, 0), (14, .ifCond .ne 7, 17, 21, 0, 0, 0), (17, .iconst 1, 18, 0, 0, 0, 1), (18, .goto 59, 21, 77, 0, 0, 0), (21, .iload_n 1, 22, 0, 0, 0, 0), (22, .ifCond .eq 16, 25, 38, 0, 0, 0), (25, .iload 4, 27, 0, 0, 0, 0), (27, .iconst 1, 28, 0, 0, 0, 1), (28, .if_icmp .lt 24, 31, 52, 0, 0, 0), (31, .iload 4, 33, 0, 0, 0, 0), (33, .bipush 8, 35, 0, 0, 0, 8), (35, .if_icmp .gt 17, 38, 52, 0, 0, 0), (38, .iload_n 1, 39, 0, 0, 0, 0), (39, .ifCond .ne 17, 42, 56, 0, 0, 0), (42, .iload 4, 44, 0, 0, 0, 0), (44, .ldc 200, 46, 0, 0, 0, 100001), (46, .invokestatic 134, 49, 101, 2, 0, 0), (49, .ifCond .ne 7, 52, 56, 0, 0, 0), (52, .iconst 2, 53, 0, 0, 0, 2), (53, .goto 24, 56, 77, 0, 0, 0), (56, .aload_n 0, 57, 0, 0, 0, 0), (57, .getfield 253, 60, 7, 1, 2, 0), (60, .ifCond .ne 12, 63, 72, 0, 0, 0), (63, .aload_n 0, 64, 0, 0, 0, 0), (64, .getfield 201, 67, 7, 28, 0, 0), (67, .bipush 8, 69, 0, 0, 0, 8), (69, .if_icmp .ne 7, 72, 76, 0, 0, 0), (72, .iconst 3, 73, 0, 0, 0, 3), (73, .goto 4, 76, 77, 0, 0, 0), (76, .iconst 0, 77, 0, 0, 0, 0), (77, .putfield 108, 80, 7, 0, 0, 0), (80, .aload_n 0, 81, 0, 0, 0, 0), (81, .getfield 108, 84, 7, 0, 0, 0), (84, .ifCond .le 5, 87, 89, 0, 0, 0), (87, .iconst 0, 88, 0, 0, 0, 0), (88, .ireturn, 89, 0, 0, 0, 0), (89, .aload_n 0, 90, 0, 0, 0, 0), (90, .getfield 75, 93, 7, 29, 1, 0), (93, .aload_n 0, 94, 0, 0, 0, 0), (94, .getfield 201, 97, 7, 28, 0, 0), (97, .iload_n 1, 98, 0, 0, 0, 0), (98, .bastore, 99, 0, 0, 0, 0), (99, .aload_n 0, 100, 0, 0, 0, 0), (100, .getfield 78, 103, 7, 30, 1, 0), (103, .aload_n 0, 104, 0, 0, 0, 0), (104, .getfield 201, 107, 7, 28, 0, 0), (107, .iload_n 2, 108, 0, 0, 0, 0), (108, .iastore, 109, 0, 0, 0, 0), (109, .aload_n 0, 110, 0, 0, 0, 0), (110, .getfield 81, 113, 7, 31, 1, 0), (113, .aload_n 0, 114, 0, 0, 0, 0), (114, .getfield 201, 117, 7, 28, 0, 0), (117, .iload_n 3, 118, 0, 0, 0, 0), (118, .iastore, 119, 0, 0, 0, 0), (119, .aload_n 0, 120, 0, 0, 0, 0), (120, .getfield 84, 123, 7, 32, 1, 0), (123, .aload_n 0, 124, 0, 0, 0, 0), (124, .getfield 201, 127, 7, 28, 0, 0), (127, .iload 4, 129, 0, 0, 0, 0), (129, .iastore, 130, 0, 0, 0, 0), (130, .aload_n 0, 131, 0, 0, 0, 0), (131, .dup, 132, 0, 0, 0, 0), (132, .getfield 201, 135, 7, 28, 0, 0), (135, .iconst 1, 136, 0, 0, 0, 1), (136, .iadd, 137, 0, 0, 0, 0), (137, .putfield 201, 140, 7, 28, 0, 0), (140, .aload_n 0, 141, 0, 0, 0, 0), (141, .getfield 201, 144, 7, 28, 0, 0), (144, .iconst 1, 145, 0, 0, 0, 1), (145, .isub, 146, 0, 0, 0, 0), (146, .ireturn, 147, 0, 0, 0, 0)]
def cd_138 : List mEn := [(0, .aload_n 0, 1, 0, 0, 0, 0), (1, .iload_n 1, 2, 0, 0, 0, 0), (2, .iconst 4, 3, 0, 0, 0, 4), (3, .invokestatic 134, 6, 101, 2, 0, 0), (6, .ifCond .eq 11, 9, 17, 0, 0, 0), (9, .iload_n 2, 10, 0, 0, 0, 0), (10, .iconst 4, 11, 0, 0, 0, 4), (11, .invokestatic 134, 14, 101, 2, 0, 0), (14, .ifCond .ne 7, 17, 21, 0, 0, 0), (17, .iconst 1, 18, 0, 0, 0, 1), (18, .goto 16, 21, 34, 0, 0, 0), (21, .iload_n 3, 22, 0, 0, 0, 0), (22, .iconst 5, 23, 0, 0, 0, 5), (23, .invokestatic 134, 26, 101, 2, 0, 0), (26, .ifCond .ne 7, 29, 33, 0, 0, 0), (29, .iconst 2, 30, 0, 0, 0, 2), (30, .goto 4, 33, 34, 0, 0, 0), (33, .iconst 0, 34, 0, 0, 0, 0), (34, .putfield 108, 37, 7, 0, 0, 0), (37, .aload_n 0, 38, 0, 0, 0, 0), (38, .getfield 108, 41, 7, 0, 0, 0), (41, .ifCond .ne 14, 44, 55, 0, 0, 0), (44, .aload_n 0, 45, 0, 0, 0, 0), (45, .getfield 20, 48, 7, 9, 1, 0), (48, .iconst 4, 49, 0, 0, 0, 4), (49, .iload_n 1, 50, 0, 0, 0, 0), (50, .imul, 51, 0, 0, 0, 0), (51, .iload_n 2, 52, 0, 0, 0, 0), (52, .iadd, 53, 0, 0, 0, 0), (53, .iload_n 3, 54, 0, 0, 0, 0), (54, .iastore, 55, 0, 0, 0, 0), (55, .return_, 56, 0, 0, 0, 0)]
def cd_139 : List mEn := [(0, .aload_n 0, 1, 0, 0, 0, 0), (1, .iload_n 1, 2, 0, 0, 0, 0), (2, .iconst 4, 3, 0, 0, 0, 4), (3, .invokestatic 134, 6, 101, 2, 0, 0), (6, .ifCond .eq 11, 9, 17, 0, 0, 0), (9, .iload_n 2, 10, 0, 0, 0, 0), (10, .iconst 4, 11, 0, 0, 0, 4), (11, .invokestatic 147, 14, 107, 2, 0, 0), (14, .ifCond .ne 7, 17, 21, 0, 0, 0), (17, .iconst 1, 18, 0, 0, 0, 1), (18, .goto 4, 21, 22, 0, 0, 0), (21, .iconst 0, 22, 0, 0, 0, 0), (22, .putfield 108, 25, 7, 0, 0, 0), (25, .aload_n 0, 26, 0, 0, 0, 0), (26, .getfield 108, 29, 7, 0, 0, 0), (29, .ifCond .ne 11, 32, 40, 0, 0, 0), (32, .aload_n 0, 33, 0, 0, 0, 0), (33, .iload_n 1, 34, 0, 0, 0, 0), (34, .iload_n 2, 35, 0, 0, 0, 0), (35, .iconst 4, 36, 0, 0, 0, 4), (36, .iload_n 3, 37, 0, 0, 0, 0), (37, .invokevirtual 158, 40, 109, 5, 0, 0), (40, .return_, 41, 0, 0, 0, 0)]
def cd_140 : List mEn := [(0, .aload_n 0, 1, 0, 0, 0, 0), (1, .aload_n 0, 2, 0, 0, 0, 0), (2, .getfield 253, 5, 7, 1, 2, 0), (5, .ifCond .ne 10, 8, 15, 0, 0, 0), (8, .aload_n 0, 9, 0, 0, 0, 0), (9, .getfield 256, 12, 7, 3, 0, 0), (12, .ifCond .ne 7, 15, 19, 0, 0, 0), (15, .iconst 1, 16, 0, 0, 0, 1), (16, .goto 4, 19, 20, 0, 0, 0), (19, .iconst 0, 20, 0, 0, 0, 0), (20, .putfield 108, 23, 7, 0, 0, 0), (23, .aload_n 0, 24, 0, 0, 0, 0), (24, .getfield 108, 27, 7, 0, 0, 0), (27, .ifCond .le 4, 30, 31, 0, 0, 0), (30, .return_, 31, 0, 0, 0, 0), (31, .aload_n 0, 32, 0, 0, 0, 0), (32, .iconst 1, 33, 0, 0, 0, 1), (33, .putfield 253, 36, 7, 1, 2, 0), (36, .iconst 0, 37, 0, 0, 0, 0), (37, .istore_n 1, 38, 0, 0, 0, 0), (38, .iload_n 1, 39, 0, 0, 0, 0), (39, .iconst 4, 40, 0, 0, 0, 4), (40, .if_icmp .ge 37, 43, 77, 0, 0, 0), (43, .iconst 0, 44, 0, 0, 0, 0), (44, .istore_n 2, 45, 0, 0, 0, 0), (45, .iload_n 2, 46, 0, 0, 0, 0), (46, .aload_n 0, 47, 0, 0, 0, 0), (47, .getfield 26, 50, 7, 11, 1, 0), (50, .iload_n 1, 51, 0, 0, 0, 0), (51, .iaload, 52, 0, 0, 0, 0), (52, .if_icmp .ge 19, 55, 71, 0, 0, 0), (55, .aload_n 0, 56, 0, 0, 0, 0), (56, .bipush 8, 58, 0, 0, 0, 8), (58, .iload_n 1, 59, 0, 0, 0, 0), (59, .imul, 60, 0, 0, 0, 0), (60, .iload_n 2, 61, 0, 0, 0, 0), (61, .iadd, 62, 0, 0, 0, 0), (62, .invokevirtual 122, 65, 103, 2, 0, 0), (65, .iinc 2 1, 68, 0, 0, 0, 1), (68, .goto (-23), 71, 45, 0, 0, 0), (71, .iinc 1 1, 74, 0, 0, 0, 1), (74, .goto (-36), 77, 38, 0, 0, 0), (77, .return_, 78, 0, 0, 0, 0)]
def cd_141 : List mEn := [(0, .aload_n 0, 1, 0, 0, 0, 0), (1, .aload_n 0, 2, 0, 0, 0, 0), (2, .getfield 253, 5, 7, 1, 2, 0), (5, .ifCond .ne 7, 8, 12, 0, 0, 0), (8, .iconst 2, 9, 0, 0, 0, 2), (9, .goto 18, 12, 27, 0, 0, 0), (12, .iload_n 1, 13, 0, 0, 0, 0), (13, .sipush 501, 16, 0, 0, 0, 501), (16, .invokestatic 134, 19, 101, 2, 0, 0), (19, .ifCond .ne 7, 22, 26, 0, 0, 0), (22, .iconst 1, 23, 0, 0, 0, 1), (23, .goto 4, 26, 27, 0, 0, 0), (26, .iconst 0, 27, 0, 0, 0, 0), (27, .putfield 108, 30, 7, 0, 0, 0), (30, .iconst 0, 31, 0, 0, 0, 0), (31, .istore_n 2, 32, 0, 0, 0, 0), (32, .iconst 0, 33, 0, 0, 0, 0), (33, .istore_n 3, 34, 0, 0, 0, 0), (34, .iload_n 3, 35, 0, 0, 0, 0), (35, .iload_n 1, 36, 0, 0, 0, 0), (36, .if_icmp .ge 23, 39, 59, 0, 0, 0), (39, .aload_n 0, 40, 0, 0, 0, 0), (40, .getfield 108, 43, 7, 0, 0, 0), (43, .ifCond .ne 16, 46, 59, 0, 0, 0), (46, .iload_n 2, 47, 0, 0, 0, 0), (47, .aload_n 0, 48, 0, 0, 0, 0), (48, .invokevirtual 259, 51, 134, 1, 0, 0), (51, .iadd, 52, 0, 0, 0, 0), (52, .istore_n 2, 53, 0, 0, 0, 0), (53, .iinc 3 1, 56, 0, 0, 0, 1), (56, .goto (-22), 59, 34, 0, 0, 0), (59, .iload_n 2, 60, 0, 0, 0, 0), (60, .ireturn, 61, 0, 0, 0, 0)]
def cd_142 : List mEn := [(0, .aload_n 0, 1, 0, 0, 0, 0), (1, .iconst 0, 2, 0, 0, 0, 0), (2, .putfield 108, 5, 7, 0, 0, 0), (5, .iload_n 1, 6, 0, 0, 0, 0), (6, .iconst 4, 7, 0, 0, 0, 4), (7, .invokestatic 134, 10, 101, 2, 0, 0), (10, .ifCond .eq 21, 13, 31, 0, 0, 0), (13, .iload_n 2, 14, 0, 0, 0, 0), (14, .iconst 4, 15, 0, 0, 0, 4), (15, .invokestatic 147, 18, 107, 2, 0, 0), (18, .ifCond .eq 13, 21, 31, 0, 0, 0), (21, .aload_n 0, 22, 0, 0, 0, 0), (22, .iload_n 1, 23, 0, 0, 0, 0), (23, .iload_n 2, 24, 0, 0, 0, 0), (24, .iconst 4, 25, 0, 0, 0, 4), (25, .invokevirtual 150, 28, 108, 4, 0, 0), (28, .goto 4, 31, 32, 0, 0, 0), (31, .iconst 0, 32, 0, 0, 0, 0), (32, .ireturn, 33, 0, 0, 0, 0)]
def cd_143 : List mEn := [(0, .iload_n 1, 1, 0, 0, 0, 0), (1, .iconst 4, 2, 0, 0, 0, 4), (2, .invokestatic 134, 5, 101, 2, 0, 0), (5, .ifCond .eq 20, 8, 25, 0, 0, 0), (8, .iload_n 2, 9, 0, 0, 0, 0), (9, .aload_n 0, 10, 0, 0, 0, 0), (10, .getfield 26, 13, 7, 11, 1, 0), (13, .iload_n 1, 14, 0, 0, 0, 0), (14, .iaload, 15, 0, 0, 0, 0), (15, .invokestatic 134, 18, 101, 2, 0, 0), (18, .ifCond .eq 7, 21, 25, 0, 0, 0), (21, .iconst 1, 22, 0, 0, 0, 1), (22, .goto 4, 25, 26, 0, 0, 0), (25, .iconst 0, 26, 0, 0, 0, 0), (26, .ireturn, 27, 0, 0, 2, 0)]
def cd_144 : List mEn := [(0, .aload_n 0, 1, 0, 0, 0, 0), (1, .iconst 0, 2, 0, 0, 0, 0), (2, .putfield 108, 5, 7, 0, 0, 0), (5, .aload_n 0, 6, 0, 0, 0, 0), (6, .iload_n 1, 7, 0, 0, 0, 0), (7, .iload_n 2, 8, 0, 0, 0, 0), (8, .invokevirtual 262, 11, 143, 3, 0, 0), (11, .ifCond .eq 31, 14, 42, 0, 0, 0), (14, .iload_n 3, 15, 0, 0, 0, 0), (15, .bipush 32, 17, 0, 0, 0, 32), (17, .invokestatic 134, 20, 101, 2, 0, 0), (20, .ifCond .eq 22, 23, 42, 0, 0, 0), (23, .aload_n 0, 24, 0, 0, 0, 0), (24, .getfield 72, 27, 7, 26, 1, 0), (27, .bipush 32, 29, 0, 0, 0, 32), (29, .bipush 8, 31, 0, 0, 0, 8), (31, .iload_n 1, 32, 0, 0, 0, 0), (32, .imul, 33, 0, 0, 0, 0), (33, .iload_n 2, 34, 0, 0, 0, 0), (34, .iadd, 35, 0, 0, 0, 0), (35, .imul, 36, 0, 0, 0, 0), (36, .iload_n 3, 37, 0, 0, 0, 0), (37, .iadd, 38, 0, 0, 0, 0), (38, .iaload, 39, 0, 0, 0, 0), (39, .goto 4, 42, 43, 0, 0, 0), (42, .iconst 0, 43, 0, 0, 0, 0), (43, .ireturn, 44, 0, 0, 0, 0)]
def cd_145 : List mEn := [(0, .aload_n 0, 1, 0, 0, 0, 0), (1, .iconst 0, 2, 0, 0, 0, 0), (2, .putfield 108, 5, 7, 0, 0, 0), (5, .aload_n 0, 6, 0, 0, 0, 0), (6, .iload_n 1, 7, 0, 0, 0, 0), (7, .iload_n 2, 8, 0, 0, 0, 0), (8, .invokevirtual 262, 11, 143, 3, 0, 0), (11, .ifCond .ne 5, 14, 16, 0, 0, 0), (14, .iconst (-1), 15, 0, 0, 0, -1), (15, .ireturn, 16, 0, 0, 0, 0), (16, .bipush 8, 18, 0, 0, 0, 8), (18, .iload_n 1, 19, 0, 0, 0, 0), (19, .imul, 20, 0, 0, 0, 0), (20, .iload_n 2, 21, 0, 0, 0, 0), (21, .iadd, 22, 0, 0, 0, 0), (22, .istore 4, 24, 0, 0, 0, 0), (24, .iload_n 3, 25, 0, 0, 0, 0), (25, .tableswitch 111 0 7 #[47, 55, 63, 71, 79, 87, 95, 103], 72, 136, 15, 0, 0), (72, .aload_n 0, 73, 0, 0, 0, 0), (73, .getfield 51, 76, 7, 19, 1, 0), (76, .iload 4, 78, 0, 0, 0, 0), (78, .iaload, 79, 0, 0, 0, 0), (79, .ireturn, 80, 0, 0, 0, 0), (80, .aload_n 0, 81, 0, 0, 0, 0), (81, .getfield 48, 84, 7, 18, 1, 0), (84, .iload 4, 86, 0, 0, 0, 0), (86, .iaload, 87, 0, 0, 0, 0), (87, .ireturn, 88, 0, 0, 0, 0), (88, .aload_n 0, 89, 0, 0, 0, 0), (89, .getfield 39, 92, 7, 15, 1, 0), (92, .iload 4, 94, 0, 0, 0, 0), (94, .iaload, 95, 0, 0, 0, 0), (95, .ireturn, 96, 0, 0, 0, 0), (96, .aload_n 0, 97, 0, 0, 0, 0), (97, .getfield 54, 100, 7, 20, 1, 0), (100, .iload 4, 102, 0, 0, 0, 0), (102, .iaload, 103, 0, 0, 0, 0), (103, .ireturn, 104, 0, 0, 0, 0), (104, .aload_n 0, 105, 0, 0, 0, 0), (105, .getfield 57, 108, 7, 21, 1, 0), (108, .iload 4, 110, 0, 0, 0, 0), (110, .iaload, 111, 0, 0, 0, 0), (111, .ireturn, 112, 0, 0, 0, 0), (112, .aload_n 0, 113, 0, 0, 0, 0), (113, .getfield 60, 116, 7, 22, 1, 0), (116, .iload 4, 118, 0, 0, 0, 0), (118, .iaload, 119, 0, 0, 0, 0), (119, .ireturn, 120, 0, 0, 0, 0), (120, .aload_n 0, 121, 0, 0, 0, 0), (121, .getfield 66, 124, 7, 24, 1, 0), (124, .iload 4, 126, 0, 0, 0, 0), (126, .iaload, 127, 0, 0, 0, 0), (127, .ireturn, 128, 0, 0, 0, 0), (128, .aload_n 0, 129, 0, 0, 0, 0), (129, .getfield 69, 132, 7, 25, 1, 0), (132, .iload 4, 134, 0, 0, 0, 0), (134, .iaload, 135, 0, 0, 0, 0), (135, .ireturn, 136, 0, 0, 0, 0), (136, .iconst (-1), 137, 0, 0, 0, -1), (137, .ireturn, 138, 0, 0, 0, 0)]
def cd_146 : List mEn := [(0, .aload_n 0, 1, 0, 0, 0, 0), (1, .iconst 0, 2, 0, 0, 0, 0), (2, .putfield 108, 5, 7, 0, 0, 0), (5, .iload_n 1, 6, 0, 0, 0, 0), (6, .istore_n 3, 7, 0, 0, 0, 0), (7, .iload_n 3, 8, 0, 0, 0, 0), (8, .iconst 4, 9, 0, 0, 0, 4), (9, .invokestatic 134, 12, 101, 2, 0, 0), (12, .ifCond .eq 12, 15, 24, 0, 0, 0), (15, .iload_n 2, 16, 0, 0, 0, 0), (16, .bipush 8, 18, 0, 0, 0, 8), (18, .invokestatic 134, 21, 101, 2, 0, 0), (21, .ifCond .ne 5, 24, 26, 0, 0, 0), (24, .iconst (-1), 25, 0, 0, 0, -1), (25, .ireturn, 26, 0, 0, 0, 0), (26, .iload_n 2, 27, 0, 0, 0, 0), (27, .iconst 3, 28, 0, 0, 0, 3), (28, .if_icmp .le 16, 31, 44, 0, 0, 0), (31, .aload_n 0, 32, 0, 0, 0, 0), (32, .getfield 23, 35, 7, 10, 1, 0), (35, .iconst 4, 36, 0, 0, 0, 4), (36, .iload_n 3, 37, 0, 0, 0, 0), (37, .imul, 38, 0, 0, 0, 0), (38, .iload_n 2, 39, 0, 0, 0, 0), (39, .iadd, 40, 0, 0, 0, 0), (40, .iconst 4, 41, 0, 0, 0, 4), (41, .isub, 42, 0, 0, 0, 0), (42, .iaload, 43, 0, 0, 0, 0), (43, .ireturn, 44, 0, 0, 0, 0), (44, .aload_n 0, 45, 0, 0, 0, 0), (45, .iload_n 3, 46, 0, 0, 0, 0), (46, .invokevirtual 244, 49, 133, 2, 0, 0), (49, .istore 4, 51, 0, 0, 0, 0), (51, .iload_n 2, 52, 0, 0, 0, 0), (52, .ifCond .ne 20, 55, 72, 0, 0, 0), (55, .aload_n 0, 56, 0, 0, 0, 0), (56, .getfield 32, 59, 7, 13, 1, 0), (59, .iload_n 3, 60, 0, 0, 0, 0), (60, .baload, 61, 0, 0, 0, 0), (61, .ifCond .eq 7, 64, 68, 0, 0, 0), (64, .iconst 1, 65, 0, 0, 0, 1), (65, .goto 50, 68, 115, 0, 0, 0), (68, .iconst 0, 69, 0, 0, 0, 0), (69, .goto 46, 72, 115, 0, 0, 0), (72, .iload_n 2, 73, 0, 0, 0, 0), (73, .iconst 1, 74, 0, 0, 0, 1), (74, .if_icmp .ne 12, 77, 86, 0, 0, 0), (77, .aload_n 0, 78, 0, 0, 0, 0), (78, .getfield 26, 81, 7, 11, 1, 0), (81, .iload_n 3, 82, 0, 0, 0, 0), (82, .iaload, 83, 0, 0, 0, 0), (83, .goto 32, 86, 115, 0, 0, 0), (86, .iload_n 2, 87, 0, 0, 0, 0), (87, .iconst 2, 88, 0, 0, 0, 2), (88, .if_icmp .ne 21, 91, 109, 0, 0, 0), (91, .iload 4, 93, 0, 0, 0, 0), (93, .iconst (-1), 94, 0, 0, 0, -1), (94, .if_icmp .ne 7, 97, 101, 0, 0, 0), (97, .iconst (-1), 98, 0, 0, 0, -1), (98, .goto 17, 101, 115, 0, 0, 0), (101, .iload 4, 103, 0, 0, 0, 0), (103, .bipush 8, 105, 0, 0, 0, 8), (105, .irem, 106, 0, 0, 0, 0), (106, .goto 9, 109, 115, 0, 0, 0), (109, .aload_n 0, 110, 0, 0, 0, 0), (110, .getfield 29, 113, 7, 12, 1, 0), (113, .iload_n 3, 114, 0, 0, 0, 0), (114, .iaload, 115, 0, 0, 0, 0), (115, .ireturn, 116, 0, 0, 0, 0)]
def cd_147 : List mEn := [(0, .aload_n 0, 1, 0, 0, 0, 0), (1, .iconst 0, 2, 0, 0, 0, 0), (2, .putfield 108, 5, 7, 0, 0, 0), (5, .iload_n 1, 6, 0, 0, 0, 0), (6, .aload_n 0, 7, 0, 0, 0, 0), (7, .getfield 201, 10, 7, 28, 0, 0), (10, .invokestatic 134, 13, 101, 2, 0, 0), (13, .ifCond .ne 5, 16, 18, 0, 0, 0), (16, .iconst (-1), 17, 0, 0, 0, -1), (17, .ireturn, 18, 0, 0, 0, 0), (18, .iload_n 2, 19, 0, 0, 0, 0), (19, .ifCond .ne 12, 22, 31, 0, 0, 0), (22, .aload_n 0, 23, 0, 0, 0, 0), (23, .getfield 87, 26, 7, 33, 1, 0), (26, .iload_n 1, 27, 0, 0, 0, 0), (27, .iaload, 28, 0, 0, 0, 0), (28, .goto 36, 31, 64, 0, 0, 0), (31, .iload_n 2, 32, 0, 0, 0, 0), (32, .iconst 1, 33, 0, 0, 0, 1), (33, .if_icmp .ne 30, 36, 63, 0, 0, 0), (36, .aload_n 0, 37, 0, 0, 0, 0), (37, .getfield 75, 40, 7, 29, 1, 0), (40, .iload_n 1, 41, 0, 0, 0, 0), (41, .baload, 42, 0, 0, 0, 0), (42, .ifCond .ne 21, 45, 63, 0, 0, 0), (45, .aload_n 0, 46, 0, 0, 0, 0), (46, .getfield 87, 49, 7, 33, 1, 0), (49, .iload_n 1, 50, 0, 0, 0, 0), (50, .iaload, 51, 0, 0, 0, 0), (51, .ifCond .le 12, 54, 63, 0, 0, 0), (54, .aload_n 0, 55, 0, 0, 0, 0), (55, .getfield 90, 58, 7, 34, 1, 0), (58, .iload_n 1, 59, 0, 0, 0, 0), (59, .iaload, 60, 0, 0, 0, 0), (60, .goto 4, 63, 64, 0, 0, 0), (63, .iconst (-1), 64, 0, 0, 0, -1), (64, .ireturn, 65, 0, 0, 0, 0)]
def cd_148 : List mEn := [(0, .aload_n 0, 1, 0, 0, 0, 0), (1, .iconst 0, 2, 0, 0, 0, 0), (2, .putfield 108, 5, 7, 0, 0, 0), (5, .iload_n 1, 6, 0, 0, 0, 0), (6, .aload_n 0, 7, 0, 0, 0, 0), (7, .getfield 201, 10, 7, 28, 0, 0), (10, .invokestatic 134, 13, 101, 2, 0, 0), (13, .ifCond .eq 30, 16, 43, 0, 0, 0), (16, .iload_n 2, 17, 0, 0, 0, 0), (17, .aload_n 0, 18, 0, 0, 0, 0), (18, .getfield 87, 21, 7, 33, 1, 0), (21, .iload_n 1, 22, 0, 0, 0, 0), (22, .iaload, 23, 0, 0, 0, 0), (23, .invokestatic 134, 26, 101, 2, 0, 0), (26, .ifCond .eq 17, 29, 43, 0, 0, 0), (29, .aload_n 0, 30, 0, 0, 0, 0), (30, .getfield 93, 33, 7, 35, 1, 0), (33, .bipush 8, 35, 0, 0, 0, 8), (35, .iload_n 1, 36, 0, 0, 0, 0), (36, .imul, 37, 0, 0, 0, 0), (37, .iload_n 2, 38, 0, 0, 0, 0), (38, .iadd, 39, 0, 0, 0, 0), (39, .iaload, 40, 0, 0, 0, 0), (40, .goto 4, 43, 44, 0, 0, 0), (43, .iconst 0, 44, 0, 0, 0, 0), (44, .ireturn, 45, 0, 0, 0, 0)]
def cd_149 : List mEn := [(0, .aload_n 0, 1, 0, 0, 0, 0), (1, .iconst 0, 2, 0, 0, 0, 0), (2, .putfield 108, 5, 7, 0, 0, 0), (5, .iload_n 1, 6, 0, 0, 0, 0), (6, .bipush 64, 8, 0, 0, 0, 64), (8, .invokestatic 134, 11, 101, 2, 0, 0), (11, .ifCond .eq 11, 14, 22, 0, 0, 0), (14, .iload_n 1, 15, 0, 0, 0, 0), (15, .aload_n 0, 16, 0, 0, 0, 0), (16, .getfield 125, 19, 7, 36, 0, 0), (19, .if_icmp .lt 5, 22, 24, 0, 0, 0), (22, .iconst (-1), 23, 0, 0, 0, -1), (23, .ireturn, 24, 0, 0, 0, 0), (24, .aload_n 0, 25, 0, 0, 0, 0), (25, .getfield 125, 28, 7, 36, 0, 0), (28, .iconst 1, 29, 0, 0, 0, 1), (29, .isub, 30, 0, 0, 0, 0), (30, .iload_n 1, 31, 0, 0, 0, 0), (31, .isub, 32, 0, 0, 0, 0), (32, .bipush 64, 34, 0, 0, 0, 64), (34, .irem, 35, 0, 0, 0, 0), (35, .istore_n 3, 36, 0, 0, 0, 0), (36, .iload_n 2, 37, 0, 0, 0, 0), (37, .ifCond .ne 12, 40, 49, 0, 0, 0), (40, .aload_n 0, 41, 0, 0, 0, 0), (41, .getfield 96, 44, 7, 37, 1, 0), (44, .iload_n 3, 45, 0, 0, 0, 0), (45, .iaload, 46, 0, 0, 0, 0), (46, .goto 46, 49, 92, 0, 0, 0), (49, .iload_n 2, 50, 0, 0, 0, 0), (50, .iconst 1, 51, 0, 0, 0, 1), (51, .if_icmp .ne 12, 54, 63, 0, 0, 0), (54, .aload_n 0, 55, 0, 0, 0, 0), (55, .getfield 99, 58, 7, 38, 1, 0), (58, .iload_n 3, 59, 0, 0, 0, 0), (59, .iaload, 60, 0, 0, 0, 0), (60, .goto 32, 63, 92, 0, 0, 0), (63, .iload_n 2, 64, 0, 0, 0, 0), (64, .iconst 2, 65, 0, 0, 0, 2), (65, .if_icmp .ne 12, 68, 77, 0, 0, 0), (68, .aload_n 0, 69, 0, 0, 0, 0), (69, .getfield 102, 72, 7, 39, 1, 0), (72, .iload_n 3, 73, 0, 0, 0, 0), (73, .iaload, 74, 0, 0, 0, 0), (74, .goto 18, 77, 92, 0, 0, 0), (77, .iload_n 2, 78, 0, 0, 0, 0), (78, .iconst 3, 79, 0, 0, 0, 3), (79, .if_icmp .ne 12, 82, 91, 0, 0, 0), (82, .aload_n 0, 83, 0, 0, 0, 0), (83, .getfield 105, 86, 7, 40, 1, 0), (86, .iload_n 3, 87, 0, 0, 0, 0), (87, .iaload, 88, 0, 0, 0, 0), (88, .goto 4, 91, 92, 0, 0, 0), (91, .iconst (-1), 92, 0, 0, 0, -1), (92, .ireturn, 93, 0, 0, 0, 0)]
def cd_150 : List mEn := [(0, .aload_n 0, 1, 0, 0, 0, 0), (1, .iconst 0, 2, 0, 0, 0, 0), (2, .putfield 108, 5, 7, 0, 0, 0), (5, .iload_n 1, 6, 0, 0, 0, 0), (6, .ifCond .ne 10, 9, 16, 0, 0, 0), (9, .aload_n 0, 10, 0, 0, 0, 0), (10, .getfield 115, 13, 7, 2, 0, 0), (13, .goto 47, 16, 60, 0, 0, 0), (16, .iload_n 1, 17, 0, 0, 0, 0), (17, .iconst 1, 18, 0, 0, 0, 1), (18, .if_icmp .ne 10, 21, 28, 0, 0, 0), (21, .aload_n 0, 22, 0, 0, 0, 0), (22, .getfield 125, 25, 7, 36, 0, 0), (25, .goto 35, 28, 60, 0, 0, 0), (28, .iload_n 1, 29, 0, 0, 0, 0), (29, .iconst 2, 30, 0, 0, 0, 2), (30, .if_icmp .ne 10, 33, 40, 0, 0, 0), (33, .aload_n 0, 34, 0, 0, 0, 0), (34, .getfield 247, 37, 7, 5, 0, 0), (37, .goto 23, 40, 60, 0, 0, 0), (40, .iload_n 1, 41, 0, 0, 0, 0), (41, .iconst 3, 42, 0, 0, 0, 3), (42, .if_icmp .ne 17, 45, 59, 0, 0, 0), (45, .aload_n 0, 46, 0, 0, 0, 0), (46, .getfield 253, 49, 7, 1, 2, 0), (49, .ifCond .eq 10, 52, 59, 0, 0, 0), (52, .aload_n 0, 53, 0, 0, 0, 0), (53, .invokevirtual 233, 56, 130, 1, 0, 0), (56, .goto 4, 59, 60, 0, 0, 0), (59, .iconst (-1), 60, 0, 0, 0, -1), (60, .ireturn, 61, 0, 0, 0, 0)]
def cd_151 : List mEn := [(0, .aload_n 0, 1, 0, 0, 0, 0), (1, .iload_n 1, 2, 0, 0, 0, 0), (2, .iload_n 2, 3, 0, 0, 0, 0), (3, .invokevirtual 7, 6, 71, 3, 0, 0), (6, .goto 12, 9, 18, 0, 0, 0), (9, .astore_n 3, 10, 0, 0, 0, 0), (10, .iconst 1, 11, 0, 0, 0, 1), (11, .ireturn, 12, 0, 0, 0, 0), (12, .astore_n 3, 13, 0, 0, 0, 0), (13, .iconst 2, 14, 0, 0, 0, 2), (14, .ireturn, 15, 0, 0, 0, 0), (15, .astore_n 3, 16, 0, 0, 0, 0), (16, .iconst 3, 17, 0, 0, 0, 3), (17, .ireturn, 18, 0, 0, 0, 0), (18, .iconst 0, 19, 0, 0, 0, 0), (19, .ireturn, 20, 0, 0, 0, 0)]
def cd_152 : List mEn := [(0, .aload 6, 2, 0, 0, 0, 0), (2, .iconst 0, 3, 0, 0, 0, 0), (3, .aload_n 0, 4, 0, 0, 0, 0), (4, .iload_n 1, 5, 0, 0, 0, 0), (5, .iload_n 2, 6, 0, 0, 0, 0), (6, .iload_n 3, 7, 0, 0, 0, 0), (7, .iload 4, 9, 0, 0, 0, 0), (9, .iload 5, 11, 0, 0, 0, 0), (11, .invokevirtual 19, 14, 72, 6, 0, 0), (14, .i2l, 15, 0, 0, 0, 0), (15, .lastore, 16, 0, 0, 0, 0), (16, .goto 15, 19, 31, 0, 0, 0), (19, .astore 7, 21, 0, 0, 0, 0), (21, .iconst 1, 22, 0, 0, 0, 1), (22, .ireturn, 23, 0, 0, 0, 0), (23, .astore 7, 25, 0, 0, 0, 0), (25, .iconst 2, 26, 0, 0, 0, 2), (26, .ireturn, 27, 0, 0, 0, 0), (27, .astore 7, 29, 0, 0, 0, 0), (29, .iconst 3, 30, 0, 0, 0, 3), (30, .ireturn, 31, 0, 0, 0, 0), (31, .iconst 0, 32, 0, 0, 0, 0), (32, .ireturn, 33, 0, 0, 0, 0)]
def cd_153 : List mEn := [(0, .aload 5, 2, 0, 0, 0, 0), (2, .iconst 0, 3, 0, 0, 0, 0), (3, .aload_n 0, 4, 0, 0, 0, 0), (4, .iload_n 1, 5, 0, 0, 0, 0), (5, .iload_n 2, 6, 0, 0, 0, 0), (6, .iload_n 3, 7, 0, 0, 0, 0), (7, .iload 4, 9, 0, 0, 0, 0), (9, .invokevirtual 23, 12, 73, 5, 0, 0), (12, .i2l, 13, 0, 0, 0, 0), (13, .lastore, 14, 0, 0, 0, 0), (14, .goto 15, 17, 29, 0, 0, 0), (17, .astore 6, 19, 0, 0, 0, 0), (19, .iconst 1, 20, 0, 0, 0, 1), (20, .ireturn, 21, 0, 0, 0, 0), (21, .astore 6, 23, 0, 0, 0, 0), (23, .iconst 2, 24, 0, 0, 0, 2), (24, .ireturn, 25, 0, 0, 0, 0), (25, .astore 6, 27, 0, 0, 0, 0), (27, .iconst 3, 28, 0, 0, 0, 3), (28, .ireturn, 29, 0, 0, 0, 0), (29, .iconst 0, 30, 0, 0, 0, 0), (30, .ireturn, 31, 0, 0, 0, 0)]
def cd_154 : List mEn := [(0, .aload_n 0, 1, 0, 0, 0, 0), (1, .iload_n 1, 2, 0, 0, 0, 0), (2, .iload_n 2, 3, 0, 0, 0, 0), (3, .iload_n 3, 4, 0, 0, 0, 0), (4, .invokevirtual 27, 7, 74, 4, 0, 0), (7, .goto 11, 10, 18, 0, 0, 0), (10, .astore 4, 12, 0, 0, 0, 0), (12, .iconst 1, 13, 0, 0, 0, 1), (13, .ireturn, 14, 0, 0, 0, 0), (14, .astore 4, 16, 0, 0, 0, 0), (16, .iconst 2, 17, 0, 0, 0, 2), (17, .ireturn, 18, 0, 0, 0, 0), (18, .iconst 0, 19, 0, 0, 0, 0), (19, .ireturn, 20, 0, 0, 0, 0)]
def cd_155 : List mEn := [(0, .aload_n 0, 1, 0, 0, 0, 0), (1, .iload_n 1, 2, 0, 0, 0, 0), (2, .iload_n 2, 3, 0, 0, 0, 0), (3, .iload_n 3, 4, 0, 0, 0, 0), (4, .invokevirtual 31, 7, 75, 4, 0, 0), (7, .goto 7, 10, 14, 0, 0, 0), (10, .astore 4, 12, 0, 0, 0, 0), (12, .iconst 1, 13, 0, 0, 0, 1), (13, .ireturn, 14, 0, 0, 0, 0), (14, .iconst 0, 15, 0, 0, 0, 0), (15, .ireturn, 16, 0, 0, 0, 0)]
def cd_156 : List mEn := [(0, .aload_n 0, 1, 0, 0, 0, 0), (1, .invokevirtual 34, 4, 76, 1, 0, 0), (4, .goto 6, 7, 10, 0, 0, 0), (7, .astore_n 1, 8, 0, 0, 0, 0), (8, .iconst 1, 9, 0, 0, 0, 1), (9, .ireturn, 10, 0, 0, 0, 0), (10, .iconst 0, 11, 0, 0, 0, 0), (11, .ireturn, 12, 0, 0, 0, 0)]
def cd_157 : List mEn := [(0, .aload_n 2, 1, 0, 0, 0, 0), (1, .iconst 0, 2, 0, 0, 0, 0), (2, .aload_n 0, 3, 0, 0, 0, 0), (3, .iload_n 1, 4, 0, 0, 0, 0), (4, .invokevirtual 37, 7, 77, 2, 0, 0), (7, .i2l, 8, 0, 0, 0, 0), (8, .lastore, 9, 0, 0, 0, 0), (9, .goto 9, 12, 18, 0, 0, 0), (12, .astore_n 3, 13, 0, 0, 0, 0), (13, .iconst 1, 14, 0, 0, 0, 1), (14, .ireturn, 15, 0, 0, 0, 0), (15, .astore_n 3, 16, 0, 0, 0, 0), (16, .iconst 2, 17, 0, 0, 0, 2), (17, .ireturn, 18, 0, 0, 0, 0), (18, .iconst 0, 19, 0, 0, 0, 0), (19, .ireturn, 20, 0, 0, 0, 0)]
def pg_cd : Nat → List mEn := fun k => match k with
  | 1 => cd_1
  | 2 => cd_2
  | 3 => cd_3
  | 4 => cd_4
  | 5 => cd_5
  | 6 => cd_6
  | 7 => cd_7
  | 8 => cd_8
  | 9 => cd_9
  | 10 => cd_10
  | 11 => cd_11
  | 12 => cd_12
  | 13 => cd_13
  | 14 => cd_14
  | 15 => cd_15
  | 16 => cd_16
  | 17 => cd_17
  | 18 => cd_18
  | 19 => cd_19
  | 20 => cd_20
  | 21 => cd_21
  | 22 => cd_22
  | 23 => cd_23
  | 24 => cd_24
  | 25 => cd_25
  | 26 => cd_26
  | 27 => cd_27
  | 28 => cd_28
  | 29 => cd_29
  | 30 => cd_30
  | 31 => cd_31
  | 32 => cd_32
  | 33 => cd_33
  | 34 => cd_34
  | 35 => cd_35
  | 36 => cd_36
  | 37 => cd_37
  | 38 => cd_38
  | 39 => cd_39
  | 40 => cd_40
  | 41 => cd_41
  | 42 => cd_42
  | 43 => cd_43
  | 44 => cd_44
  | 45 => cd_45
  | 46 => cd_46
  | 47 => cd_47
  | 48 => cd_48
  | 49 => cd_49
  | 50 => cd_50
  | 51 => cd_51
  | 52 => cd_52
  | 53 => cd_53
  | 54 => cd_54
  | 55 => cd_55
  | 56 => cd_56
  | 57 => cd_57
  | 58 => cd_58
  | 59 => cd_59
  | 60 => cd_60
  | 61 => cd_61
  | 62 => cd_62
  | 63 => cd_63
  | 64 => cd_64
  | 65 => cd_65
  | 66 => cd_66
  | 67 => cd_67
  | 68 => cd_68
  | 69 => cd_69
  | 70 => cd_70
  | 71 => cd_71
  | 72 => cd_72
  | 73 => cd_73
  | 74 => cd_74
  | 75 => cd_75
  | 76 => cd_76
  | 77 => cd_77
  | 78 => cd_78
  | 79 => cd_79
  | 80 => cd_80
  | 81 => cd_81
  | 82 => cd_82
  | 83 => cd_83
  | 84 => cd_84
  | 85 => cd_85
  | 86 => cd_86
  | 87 => cd_87
  | 88 => cd_88
  | 89 => cd_89
  | 90 => cd_90
  | 91 => cd_91
  | 92 => cd_92
  | 93 => cd_93
  | 94 => cd_94
  | 95 => cd_95
  | 96 => cd_96
  | 97 => cd_97
  | 98 => cd_98
  | 99 => cd_99
  | 100 => cd_100
  | 101 => cd_101
  | 102 => cd_102
  | 103 => cd_103
  | 104 => cd_104
  | 105 => cd_105
  | 106 => cd_106
  | 107 => cd_107
  | 108 => cd_108
  | 109 => cd_109
  | 110 => cd_110
  | 111 => cd_111
  | 112 => cd_112
  | 113 => cd_113
  | 114 => cd_114
  | 115 => cd_115
  | 116 => cd_116
  | 117 => cd_117
  | 118 => cd_118
  | 119 => cd_119
  | 120 => cd_120
  | 121 => cd_121
  | 122 => cd_122
  | 123 => cd_123
  | 124 => cd_124
  | 125 => cd_125
  | 126 => cd_126
  | 127 => cd_127
  | 128 => cd_128
  | 129 => cd_129
  | 130 => cd_130
  | 131 => cd_131
  | 132 => cd_132
  | 133 => cd_133
  | 134 => cd_134
  | 135 => cd_135
  | 136 => cd_136
  | 137 => cd_137
  | 138 => cd_138
  | 139 => cd_139
  | 140 => cd_140
  | 141 => cd_141
  | 142 => cd_142
  | 143 => cd_143
  | 144 => cd_144
  | 145 => cd_145
  | 146 => cd_146
  | 147 => cd_147
  | 148 => cd_148
  | 149 => cd_149
  | 150 => cd_150
  | _ => []
end
section
/-! The words that the rows need, by their places in the tables. -/
theorem mq_gw {w : Cond} (i mi : Nat) (h : lw_tbl[i]? = some w) (hg : goodWord w = true) : w ∈ mq_ws pg_Z mi := List.mem_cons_of_mem _ (List.mem_filter.mpr ⟨List.mem_of_getElem? h, hg⟩)
theorem gw_0 (mi : Nat) : Jvm.Cond.selects "PartitionKernel" ⟨"PartitionKernel", "partitionAt", "(I)LPartitionKernel$Partition;"⟩ ⟨"PartitionKernel", "partitionAt", "(I)LPartitionKernel$Partition;"⟩ ∈ mq_ws pg_Z mi := mq_gw 0 mi (by decide +kernel) (by decide +kernel)
theorem gw_1 (mi : Nat) : Jvm.Cond.selects "PartitionKernel" ⟨"PartitionKernel", "processAt", "(II)LPartitionKernel$Proc;"⟩ ⟨"PartitionKernel", "processAt", "(II)LPartitionKernel$Proc;"⟩ ∈ mq_ws pg_Z mi := mq_gw 1 mi (by decide +kernel) (by decide +kernel)
theorem gw_2 (mi : Nat) : Jvm.Cond.selects "PartitionKernel$Partition" ⟨"PartitionKernel$Partition", "firstReadyNumber", "()I"⟩ ⟨"PartitionKernel$Partition", "firstReadyNumber", "()I"⟩ ∈ mq_ws pg_Z mi := mq_gw 2 mi (by decide +kernel) (by decide +kernel)
theorem gw_3 (mi : Nat) : Jvm.Cond.selects "PartitionKernel" ⟨"PartitionKernel", "channelAt", "(I)LPartitionKernel$Channel;"⟩ ⟨"PartitionKernel", "channelAt", "(I)LPartitionKernel$Channel;"⟩ ∈ mq_ws pg_Z mi := mq_gw 3 mi (by decide +kernel) (by decide +kernel)
theorem gw_4 (mi : Nat) : Jvm.Cond.selects "PartitionKernel$Channel" ⟨"PartitionKernel$Channel", "placeOf", "(I)I"⟩ ⟨"PartitionKernel$Channel", "placeOf", "(I)I"⟩ ∈ mq_ws pg_Z mi := mq_gw 4 mi (by decide +kernel) (by decide +kernel)
theorem gw_6 (mi : Nat) : Jvm.Cond.selects "PartitionKernel$Partition" ⟨"PartitionKernel$Partition", "enter", "(LPartitionKernel$Proc;III)V"⟩ ⟨"PartitionKernel$Partition", "enter", "(LPartitionKernel$Proc;III)V"⟩ ∈ mq_ws pg_Z mi := mq_gw 6 mi (by decide +kernel) (by decide +kernel)
theorem gw_7 (mi : Nat) : Jvm.Cond.selects "PartitionKernel" ⟨"PartitionKernel", "tick", "(LPartitionKernel$Partition;)V"⟩ ⟨"PartitionKernel", "tick", "(LPartitionKernel$Partition;)V"⟩ ∈ mq_ws pg_Z mi := mq_gw 7 mi (by decide +kernel) (by decide +kernel)
theorem gw_8 (mi : Nat) : Jvm.Cond.selects "PartitionKernel$Partition" ⟨"PartitionKernel$Partition", "firstSleeper", "(I)LPartitionKernel$Proc;"⟩ ⟨"PartitionKernel$Partition", "firstSleeper", "(I)LPartitionKernel$Proc;"⟩ ∈ mq_ws pg_Z mi := mq_gw 8 mi (by decide +kernel) (by decide +kernel)
theorem gw_9 (mi : Nat) : Jvm.Cond.selects "PartitionKernel" ⟨"PartitionKernel", "dueErrorsEndTick", "(LPartitionKernel$Partition;)Z"⟩ ⟨"PartitionKernel", "dueErrorsEndTick", "(LPartitionKernel$Partition;)Z"⟩ ∈ mq_ws pg_Z mi := mq_gw 9 mi (by decide +kernel) (by decide +kernel)
theorem gw_10 (mi : Nat) : Jvm.Cond.selects "PartitionKernel" ⟨"PartitionKernel", "fails", "(LPartitionKernel$Partition;LPartitionKernel$Proc;I)Z"⟩ ⟨"PartitionKernel", "fails", "(LPartitionKernel$Partition;LPartitionKernel$Proc;I)Z"⟩ ∈ mq_ws pg_Z mi := mq_gw 10 mi (by decide +kernel) (by decide +kernel)
theorem gw_11 (mi : Nat) : Jvm.Cond.selects "PartitionKernel" ⟨"PartitionKernel", "serve", "(LPartitionKernel$Partition;LPartitionKernel$Proc;)I"⟩ ⟨"PartitionKernel", "serve", "(LPartitionKernel$Partition;LPartitionKernel$Proc;)I"⟩ ∈ mq_ws pg_Z mi := mq_gw 11 mi (by decide +kernel) (by decide +kernel)
theorem gw_12 (mi : Nat) : Jvm.Cond.selects "PartitionKernel" ⟨"PartitionKernel", "answer", "(ILPartitionKernel$Partition;LPartitionKernel$Proc;)I"⟩ ⟨"PartitionKernel", "answer", "(ILPartitionKernel$Partition;LPartitionKernel$Proc;)I"⟩ ∈ mq_ws pg_Z mi := mq_gw 12 mi (by decide +kernel) (by decide +kernel)
theorem gw_13 (mi : Nat) : Jvm.Cond.selects "PartitionKernel" ⟨"PartitionKernel", "send", "(LPartitionKernel$Partition;II)I"⟩ ⟨"PartitionKernel", "send", "(LPartitionKernel$Partition;II)I"⟩ ∈ mq_ws pg_Z mi := mq_gw 13 mi (by decide +kernel) (by decide +kernel)
theorem gw_14 (mi : Nat) : Jvm.Cond.selects "PartitionKernel" ⟨"PartitionKernel", "receive", "(LPartitionKernel$Partition;ILPartitionKernel$Proc;)I"⟩ ⟨"PartitionKernel", "receive", "(LPartitionKernel$Partition;ILPartitionKernel$Proc;)I"⟩ ∈ mq_ws pg_Z mi := mq_gw 14 mi (by decide +kernel) (by decide +kernel)
theorem gw_15 (mi : Nat) : Jvm.Cond.selects "PartitionKernelModel" ⟨"PartitionKernelModel", "store", "(IIII)V"⟩ ⟨"PartitionKernelModel", "store", "(IIII)V"⟩ ∈ mq_ws pg_Z mi := mq_gw 15 mi (by decide +kernel) (by decide +kernel)
theorem gw_16 (mi : Nat) : Jvm.Cond.selects "PartitionKernelModel" ⟨"PartitionKernelModel", "start", "(I)V"⟩ ⟨"PartitionKernelModel", "start", "(I)V"⟩ ∈ mq_ws pg_Z mi := mq_gw 16 mi (by decide +kernel) (by decide +kernel)
theorem gw_17 (mi : Nat) : Jvm.Cond.selects "PartitionKernelModel" ⟨"PartitionKernelModel", "ready", "(I)V"⟩ ⟨"PartitionKernelModel", "ready", "(I)V"⟩ ∈ mq_ws pg_Z mi := mq_gw 17 mi (by decide +kernel) (by decide +kernel)
theorem gw_18 (mi : Nat) : Jvm.Cond.selects "PartitionKernelModel" ⟨"PartitionKernelModel", "tick", "()I"⟩ ⟨"PartitionKernelModel", "tick", "()I"⟩ ∈ mq_ws pg_Z mi := mq_gw 18 mi (by decide +kernel) (by decide +kernel)
theorem gw_19 (mi : Nat) : Jvm.Cond.selects "PartitionKernelModel" ⟨"PartitionKernelModel", "windowNow", "()I"⟩ ⟨"PartitionKernelModel", "windowNow", "()I"⟩ ∈ mq_ws pg_Z mi := mq_gw 19 mi (by decide +kernel) (by decide +kernel)
theorem gw_20 (mi : Nat) : Jvm.Cond.selects "PartitionKernelModel" ⟨"PartitionKernelModel", "wake", "(I)V"⟩ ⟨"PartitionKernelModel", "wake", "(I)V"⟩ ∈ mq_ws pg_Z mi := mq_gw 20 mi (by decide +kernel) (by decide +kernel)
theorem gw_21 (mi : Nat) : Jvm.Cond.selects "PartitionKernelModel" ⟨"PartitionKernelModel", "isLate", "(I)Z"⟩ ⟨"PartitionKernelModel", "isLate", "(I)Z"⟩ ∈ mq_ws pg_Z mi := mq_gw 21 mi (by decide +kernel) (by decide +kernel)
theorem gw_22 (mi : Nat) : Jvm.Cond.selects "PartitionKernelModel" ⟨"PartitionKernelModel", "fails", "(III)Z"⟩ ⟨"PartitionKernelModel", "fails", "(III)Z"⟩ ∈ mq_ws pg_Z mi := mq_gw 22 mi (by decide +kernel) (by decide +kernel)
theorem gw_23 (mi : Nat) : Jvm.Cond.selects "PartitionKernelModel" ⟨"PartitionKernelModel", "sleep", "(I)V"⟩ ⟨"PartitionKernelModel", "sleep", "(I)V"⟩ ∈ mq_ws pg_Z mi := mq_gw 23 mi (by decide +kernel) (by decide +kernel)
theorem gw_24 (mi : Nat) : Jvm.Cond.selects "PartitionKernelModel" ⟨"PartitionKernelModel", "restart", "(I)V"⟩ ⟨"PartitionKernelModel", "restart", "(I)V"⟩ ∈ mq_ws pg_Z mi := mq_gw 24 mi (by decide +kernel) (by decide +kernel)
theorem gw_25 (mi : Nat) : Jvm.Cond.selects "PartitionKernelModel" ⟨"PartitionKernelModel", "first", "(I)I"⟩ ⟨"PartitionKernelModel", "first", "(I)I"⟩ ∈ mq_ws pg_Z mi := mq_gw 25 mi (by decide +kernel) (by decide +kernel)
theorem gw_26 (mi : Nat) : Jvm.Cond.selects "PartitionKernelModel" ⟨"PartitionKernelModel", "load", "(III)I"⟩ ⟨"PartitionKernelModel", "load", "(III)I"⟩ ∈ mq_ws pg_Z mi := mq_gw 26 mi (by decide +kernel) (by decide +kernel)
theorem gw_27 (mi : Nat) : Jvm.Cond.selects "PartitionKernelModel" ⟨"PartitionKernelModel", "instruct", "(II)I"⟩ ⟨"PartitionKernelModel", "instruct", "(II)I"⟩ ∈ mq_ws pg_Z mi := mq_gw 27 mi (by decide +kernel) (by decide +kernel)
theorem gw_28 (mi : Nat) : Jvm.Cond.selects "PartitionKernelModel" ⟨"PartitionKernelModel", "give", "(I)I"⟩ ⟨"PartitionKernelModel", "give", "(I)I"⟩ ∈ mq_ws pg_Z mi := mq_gw 28 mi (by decide +kernel) (by decide +kernel)
theorem gw_29 (mi : Nat) : Jvm.Cond.selects "PartitionKernelModel" ⟨"PartitionKernelModel", "jump", "(III)I"⟩ ⟨"PartitionKernelModel", "jump", "(III)I"⟩ ∈ mq_ws pg_Z mi := mq_gw 29 mi (by decide +kernel) (by decide +kernel)
theorem gw_30 (mi : Nat) : Jvm.Cond.selects "PartitionKernelModel" ⟨"PartitionKernelModel", "loaded", "(III)I"⟩ ⟨"PartitionKernelModel", "loaded", "(III)I"⟩ ∈ mq_ws pg_Z mi := mq_gw 30 mi (by decide +kernel) (by decide +kernel)
theorem gw_31 (mi : Nat) : Jvm.Cond.selects "PartitionKernelModel" ⟨"PartitionKernelModel", "stored", "(IIII)I"⟩ ⟨"PartitionKernelModel", "stored", "(IIII)I"⟩ ∈ mq_ws pg_Z mi := mq_gw 31 mi (by decide +kernel) (by decide +kernel)
theorem gw_32 (mi : Nat) : Jvm.Cond.selects "PartitionKernelModel" ⟨"PartitionKernelModel", "reckon", "(III)I"⟩ ⟨"PartitionKernelModel", "reckon", "(III)I"⟩ ∈ mq_ws pg_Z mi := mq_gw 32 mi (by decide +kernel) (by decide +kernel)
theorem gw_33 (mi : Nat) : Jvm.Cond.selects "PartitionKernelModel" ⟨"PartitionKernelModel", "call", "(II)I"⟩ ⟨"PartitionKernelModel", "call", "(II)I"⟩ ∈ mq_ws pg_Z mi := mq_gw 33 mi (by decide +kernel) (by decide +kernel)
theorem gw_34 (mi : Nat) : Jvm.Cond.selects "PartitionKernelModel" ⟨"PartitionKernelModel", "periodic", "(I)I"⟩ ⟨"PartitionKernelModel", "periodic", "(I)I"⟩ ∈ mq_ws pg_Z mi := mq_gw 34 mi (by decide +kernel) (by decide +kernel)
theorem gw_35 (mi : Nat) : Jvm.Cond.selects "PartitionKernelModel" ⟨"PartitionKernelModel", "timed", "(II)V"⟩ ⟨"PartitionKernelModel", "timed", "(II)V"⟩ ∈ mq_ws pg_Z mi := mq_gw 35 mi (by decide +kernel) (by decide +kernel)
theorem gw_36 (mi : Nat) : Jvm.Cond.selects "PartitionKernelModel" ⟨"PartitionKernelModel", "sleepFor", "(II)I"⟩ ⟨"PartitionKernelModel", "sleepFor", "(II)I"⟩ ∈ mq_ws pg_Z mi := mq_gw 36 mi (by decide +kernel) (by decide +kernel)
theorem gw_37 (mi : Nat) : Jvm.Cond.selects "PartitionKernelModel" ⟨"PartitionKernelModel", "startOther", "(II)I"⟩ ⟨"PartitionKernelModel", "startOther", "(II)I"⟩ ∈ mq_ws pg_Z mi := mq_gw 37 mi (by decide +kernel) (by decide +kernel)
theorem gw_38 (mi : Nat) : Jvm.Cond.selects "PartitionKernelModel" ⟨"PartitionKernelModel", "rank", "(III)I"⟩ ⟨"PartitionKernelModel", "rank", "(III)I"⟩ ∈ mq_ws pg_Z mi := mq_gw 38 mi (by decide +kernel) (by decide +kernel)
theorem gw_39 (mi : Nat) : Jvm.Cond.selects "PartitionKernelModel" ⟨"PartitionKernelModel", "take", "(III)I"⟩ ⟨"PartitionKernelModel", "take", "(III)I"⟩ ∈ mq_ws pg_Z mi := mq_gw 39 mi (by decide +kernel) (by decide +kernel)
theorem gw_40 (mi : Nat) : Jvm.Cond.selects "PartitionKernelModel" ⟨"PartitionKernelModel", "release", "(II)I"⟩ ⟨"PartitionKernelModel", "release", "(II)I"⟩ ∈ mq_ws pg_Z mi := mq_gw 40 mi (by decide +kernel) (by decide +kernel)
theorem gw_41 (mi : Nat) : Jvm.Cond.selects "PartitionKernelModel" ⟨"PartitionKernelModel", "send", "(III)I"⟩ ⟨"PartitionKernelModel", "send", "(III)I"⟩ ∈ mq_ws pg_Z mi := mq_gw 41 mi (by decide +kernel) (by decide +kernel)
theorem gw_42 (mi : Nat) : Jvm.Cond.selects "PartitionKernelModel" ⟨"PartitionKernelModel", "receive", "(III)I"⟩ ⟨"PartitionKernelModel", "receive", "(III)I"⟩ ∈ mq_ws pg_Z mi := mq_gw 42 mi (by decide +kernel) (by decide +kernel)
theorem gw_43 (mi : Nat) : Jvm.Cond.selects "PartitionKernelModel" ⟨"PartitionKernelModel", "isProcess", "(II)Z"⟩ ⟨"PartitionKernelModel", "isProcess", "(II)Z"⟩ ∈ mq_ws pg_Z mi := mq_gw 43 mi (by decide +kernel) (by decide +kernel)
theorem gw_45 (mi : Nat) : (Jvm.Cond.initialized "PartitionKernel") ∈ mq_ws pg_Z mi := mq_gw 45 mi (by decide +kernel) (by decide +kernel)
theorem gw_46 (mi : Nat) : (Jvm.Cond.initialized "PartitionKernel$Frame") ∈ mq_ws pg_Z mi := mq_gw 46 mi (by decide +kernel) (by decide +kernel)
theorem gw_47 (mi : Nat) : (Jvm.Cond.initialized "PartitionKernel$ErrorLog") ∈ mq_ws pg_Z mi := mq_gw 47 mi (by decide +kernel) (by decide +kernel)
theorem gw_48 (mi : Nat) : (Jvm.Cond.initialized "PartitionKernel$Partition") ∈ mq_ws pg_Z mi := mq_gw 48 mi (by decide +kernel) (by decide +kernel)
theorem gw_49 (mi : Nat) : (Jvm.Cond.initialized "PartitionKernel$Memory") ∈ mq_ws pg_Z mi := mq_gw 49 mi (by decide +kernel) (by decide +kernel)
theorem gw_50 (mi : Nat) : (Jvm.Cond.initialized "PartitionKernel$Proc") ∈ mq_ws pg_Z mi := mq_gw 50 mi (by decide +kernel) (by decide +kernel)
theorem gw_51 (mi : Nat) : (Jvm.Cond.initialized "PartitionKernel$Channel") ∈ mq_ws pg_Z mi := mq_gw 51 mi (by decide +kernel) (by decide +kernel)
theorem gw_52 (mi : Nat) : (Jvm.Cond.initialized "PartitionKernelModel") ∈ mq_ws pg_Z mi := mq_gw 52 mi (by decide +kernel) (by decide +kernel)
theorem gw_59 (mi : Nat) : (Jvm.Cond.initialized "java/lang/Math") ∈ mq_ws pg_Z mi := mq_gw 59 mi (by decide +kernel) (by decide +kernel)
theorem gw_60 (mi : Nat) : (Jvm.Cond.initialized "PartitionKernel$Machine") ∈ mq_ws pg_Z mi := mq_gw 60 mi (by decide +kernel) (by decide +kernel)
theorem gw_66 (mi : Nat) : (Jvm.Cond.methodLink "PartitionKernel" (1 : Nat) ({ cls := "java/lang/Object", name := "<init>", desc := "()V" } : Jvm.MethodName)) ∈ mq_ws pg_Z mi := mq_gw 66 mi (by decide +kernel) (by decide +kernel)
theorem gw_67 (mi : Nat) : (Jvm.Cond.instanceMethod ({ cls := "java/lang/Object", name := "<init>", desc := "()V" } : Jvm.MethodName)) ∈ mq_ws pg_Z mi := mq_gw 67 mi (by decide +kernel) (by decide +kernel)
theorem gw_68 (mi : Nat) : (Jvm.Cond.code ({ cls := "java/lang/Object", name := "<init>", desc := "()V" } : Jvm.MethodName) object_method_1_code (1 : Nat) (Option.none : Option Jvm.ClassFile.FieldType)) ∈ mq_ws pg_Z mi := mq_gw 68 mi (by decide +kernel) (by decide +kernel)
theorem gw_69 (mi : Nat) : (Jvm.Cond.classLink "PartitionKernel" (9 : Nat) "PartitionKernel$Partition") ∈ mq_ws pg_Z mi := mq_gw 69 mi (by decide +kernel) (by decide +kernel)
theorem gw_71 (mi : Nat) : (Jvm.Cond.classLink "PartitionKernel" (15 : Nat) "PartitionKernel$Channel") ∈ mq_ws pg_Z mi := mq_gw 71 mi (by decide +kernel) (by decide +kernel)
theorem gw_73 (mi : Nat) : (Jvm.Cond.classLink "PartitionKernel" (21 : Nat) "PartitionKernel$Frame") ∈ mq_ws pg_Z mi := mq_gw 73 mi (by decide +kernel) (by decide +kernel)
theorem gw_74 (mi : Nat) : (Jvm.Cond.instantiable "PartitionKernel$Frame" (5 : Nat)) ∈ mq_ws pg_Z mi := mq_gw 74 mi (by decide +kernel) (by decide +kernel)
theorem gw_76 (mi : Nat) : (Jvm.Cond.instanceMethod ({ cls := "PartitionKernel$Frame", name := "<init>", desc := "()V" } : Jvm.MethodName)) ∈ mq_ws pg_Z mi := mq_gw 76 mi (by decide +kernel) (by decide +kernel)
theorem gw_77 (mi : Nat) : (Jvm.Cond.code ({ cls := "PartitionKernel$Frame", name := "<init>", desc := "()V" } : Jvm.MethodName) prog_4_method_1_code (1 : Nat) (Option.none : Option Jvm.ClassFile.FieldType)) ∈ mq_ws pg_Z mi := mq_gw 77 mi (by decide +kernel) (by decide +kernel)
theorem gw_78 (mi : Nat) : (Jvm.Cond.methodLink "PartitionKernel$Frame" (3 : Nat) ({ cls := "java/lang/Object", name := "<init>", desc := "()V" } : Jvm.MethodName)) ∈ mq_ws pg_Z mi := mq_gw 78 mi (by decide +kernel) (by decide +kernel)
theorem gw_79 (mi : Nat) : (Jvm.Cond.fieldLink "PartitionKernel$Frame" (9 : Nat) "PartitionKernel$Frame" "owners" "[I") ∈ mq_ws pg_Z mi := mq_gw 79 mi (by decide +kernel) (by decide +kernel)
theorem gw_80 (mi : Nat) : (Jvm.Cond.fieldLink "PartitionKernel$Frame" (15 : Nat) "PartitionKernel$Frame" "lengths" "[I") ∈ mq_ws pg_Z mi := mq_gw 80 mi (by decide +kernel) (by decide +kernel)
theorem gw_81 (mi : Nat) : (Jvm.Cond.fieldLink "PartitionKernel$Frame" (18 : Nat) "PartitionKernel$Frame" "count" "I") ∈ mq_ws pg_Z mi := mq_gw 81 mi (by decide +kernel) (by decide +kernel)
theorem gw_82 (mi : Nat) : (Jvm.Cond.fieldLink "PartitionKernel" (122 : Nat) "PartitionKernel$Frame" "count" "I") ∈ mq_ws pg_Z mi := mq_gw 82 mi (by decide +kernel) (by decide +kernel)
theorem gw_83 (mi : Nat) : (Jvm.Cond.fieldLink "PartitionKernel$Frame" (22 : Nat) "PartitionKernel$Frame" "current" "I") ∈ mq_ws pg_Z mi := mq_gw 83 mi (by decide +kernel) (by decide +kernel)
theorem gw_84 (mi : Nat) : (Jvm.Cond.fieldLink "PartitionKernel$Frame" (25 : Nat) "PartitionKernel$Frame" "spent" "I") ∈ mq_ws pg_Z mi := mq_gw 84 mi (by decide +kernel) (by decide +kernel)
theorem gw_85 (mi : Nat) : (Jvm.Cond.laysFinal "PartitionKernel$Frame" "PartitionKernel$Frame" "owners" "[I") ∈ mq_ws pg_Z mi := mq_gw 85 mi (by decide +kernel) (by decide +kernel)
theorem gw_87 (mi : Nat) : (Jvm.Cond.laysFinal "PartitionKernel$Frame" "PartitionKernel$Frame" "lengths" "[I") ∈ mq_ws pg_Z mi := mq_gw 87 mi (by decide +kernel) (by decide +kernel)
theorem gw_89 (mi : Nat) : (Jvm.Cond.lays "PartitionKernel$Frame" "PartitionKernel$Frame" "count" "I") ∈ mq_ws pg_Z mi := mq_gw 89 mi (by decide +kernel) (by decide +kernel)
theorem gw_91 (mi : Nat) : (Jvm.Cond.lays "PartitionKernel$Frame" "PartitionKernel$Frame" "current" "I") ∈ mq_ws pg_Z mi := mq_gw 91 mi (by decide +kernel) (by decide +kernel)
theorem gw_93 (mi : Nat) : (Jvm.Cond.lays "PartitionKernel$Frame" "PartitionKernel$Frame" "spent" "I") ∈ mq_ws pg_Z mi := mq_gw 93 mi (by decide +kernel) (by decide +kernel)
theorem gw_96 (mi : Nat) : (Jvm.Cond.arrayClass Jvm.ClassFile.FieldType.int) ∈ mq_ws pg_Z mi := mq_gw 96 mi (by decide +kernel) (by decide +kernel)
theorem gw_97 (mi : Nat) : (Jvm.Cond.classLink "PartitionKernel" (28 : Nat) "PartitionKernel$ErrorLog") ∈ mq_ws pg_Z mi := mq_gw 97 mi (by decide +kernel) (by decide +kernel)
theorem gw_98 (mi : Nat) : (Jvm.Cond.instantiable "PartitionKernel$ErrorLog" (7 : Nat)) ∈ mq_ws pg_Z mi := mq_gw 98 mi (by decide +kernel) (by decide +kernel)
theorem gw_100 (mi : Nat) : (Jvm.Cond.instanceMethod ({ cls := "PartitionKernel$ErrorLog", name := "<init>", desc := "()V" } : Jvm.MethodName)) ∈ mq_ws pg_Z mi := mq_gw 100 mi (by decide +kernel) (by decide +kernel)
theorem gw_101 (mi : Nat) : (Jvm.Cond.code ({ cls := "PartitionKernel$ErrorLog", name := "<init>", desc := "()V" } : Jvm.MethodName) prog_3_method_1_code (1 : Nat) (Option.none : Option Jvm.ClassFile.FieldType)) ∈ mq_ws pg_Z mi := mq_gw 101 mi (by decide +kernel) (by decide +kernel)
theorem gw_102 (mi : Nat) : (Jvm.Cond.methodLink "PartitionKernel$ErrorLog" (3 : Nat) ({ cls := "java/lang/Object", name := "<init>", desc := "()V" } : Jvm.MethodName)) ∈ mq_ws pg_Z mi := mq_gw 102 mi (by decide +kernel) (by decide +kernel)
theorem gw_103 (mi : Nat) : (Jvm.Cond.fieldLink "PartitionKernel$ErrorLog" (9 : Nat) "PartitionKernel$ErrorLog" "times" "[I") ∈ mq_ws pg_Z mi := mq_gw 103 mi (by decide +kernel) (by decide +kernel)
theorem gw_104 (mi : Nat) : (Jvm.Cond.fieldLink "PartitionKernel$ErrorLog" (15 : Nat) "PartitionKernel$ErrorLog" "partitions" "[I") ∈ mq_ws pg_Z mi := mq_gw 104 mi (by decide +kernel) (by decide +kernel)
theorem gw_105 (mi : Nat) : (Jvm.Cond.fieldLink "PartitionKernel$ErrorLog" (18 : Nat) "PartitionKernel$ErrorLog" "processes" "[I") ∈ mq_ws pg_Z mi := mq_gw 105 mi (by decide +kernel) (by decide +kernel)
theorem gw_106 (mi : Nat) : (Jvm.Cond.fieldLink "PartitionKernel$ErrorLog" (21 : Nat) "PartitionKernel$ErrorLog" "kinds" "[I") ∈ mq_ws pg_Z mi := mq_gw 106 mi (by decide +kernel) (by decide +kernel)
theorem gw_107 (mi : Nat) : (Jvm.Cond.fieldLink "PartitionKernel$ErrorLog" (37 : Nat) "PartitionKernel$ErrorLog" "total" "I") ∈ mq_ws pg_Z mi := mq_gw 107 mi (by decide +kernel) (by decide +kernel)
theorem gw_108 (mi : Nat) : (Jvm.Cond.fieldLink "PartitionKernel" (182 : Nat) "PartitionKernel$ErrorLog" "total" "I") ∈ mq_ws pg_Z mi := mq_gw 108 mi (by decide +kernel) (by decide +kernel)
theorem gw_109 (mi : Nat) : (Jvm.Cond.fieldLink "PartitionKernel$ErrorLog" (28 : Nat) "PartitionKernel$ErrorLog" "kept" "I") ∈ mq_ws pg_Z mi := mq_gw 109 mi (by decide +kernel) (by decide +kernel)
theorem gw_110 (mi : Nat) : (Jvm.Cond.fieldLink "PartitionKernel$ErrorLog" (24 : Nat) "PartitionKernel$ErrorLog" "next" "I") ∈ mq_ws pg_Z mi := mq_gw 110 mi (by decide +kernel) (by decide +kernel)
theorem gw_111 (mi : Nat) : (Jvm.Cond.laysFinal "PartitionKernel$ErrorLog" "PartitionKernel$ErrorLog" "times" "[I") ∈ mq_ws pg_Z mi := mq_gw 111 mi (by decide +kernel) (by decide +kernel)
theorem gw_113 (mi : Nat) : (Jvm.Cond.laysFinal "PartitionKernel$ErrorLog" "PartitionKernel$ErrorLog" "partitions" "[I") ∈ mq_ws pg_Z mi := mq_gw 113 mi (by decide +kernel) (by decide +kernel)
theorem gw_115 (mi : Nat) : (Jvm.Cond.laysFinal "PartitionKernel$ErrorLog" "PartitionKernel$ErrorLog" "processes" "[I") ∈ mq_ws pg_Z mi := mq_gw 115 mi (by decide +kernel) (by decide +kernel)
theorem gw_117 (mi : Nat) : (Jvm.Cond.laysFinal "PartitionKernel$ErrorLog" "PartitionKernel$ErrorLog" "kinds" "[I") ∈ mq_ws pg_Z mi := mq_gw 117 mi (by decide +kernel) (by decide +kernel)
theorem gw_119 (mi : Nat) : (Jvm.Cond.lays "PartitionKernel$ErrorLog" "PartitionKernel$ErrorLog" "total" "I") ∈ mq_ws pg_Z mi := mq_gw 119 mi (by decide +kernel) (by decide +kernel)
theorem gw_121 (mi : Nat) : (Jvm.Cond.lays "PartitionKernel$ErrorLog" "PartitionKernel$ErrorLog" "kept" "I") ∈ mq_ws pg_Z mi := mq_gw 121 mi (by decide +kernel) (by decide +kernel)
theorem gw_123 (mi : Nat) : (Jvm.Cond.lays "PartitionKernel$ErrorLog" "PartitionKernel$ErrorLog" "next" "I") ∈ mq_ws pg_Z mi := mq_gw 123 mi (by decide +kernel) (by decide +kernel)
theorem gw_126 (mi : Nat) : (Jvm.Cond.instantiable "PartitionKernel$Partition" (9 : Nat)) ∈ mq_ws pg_Z mi := mq_gw 126 mi (by decide +kernel) (by decide +kernel)
theorem gw_127 (mi : Nat) : (Jvm.Cond.methodLink "PartitionKernel" (35 : Nat) ({ cls := "PartitionKernel$Partition", name := "<init>", desc := "(I)V" } : Jvm.MethodName)) ∈ mq_ws pg_Z mi := mq_gw 127 mi (by decide +kernel) (by decide +kernel)
theorem gw_128 (mi : Nat) : (Jvm.Cond.instanceMethod ({ cls := "PartitionKernel$Partition", name := "<init>", desc := "(I)V" } : Jvm.MethodName)) ∈ mq_ws pg_Z mi := mq_gw 128 mi (by decide +kernel) (by decide +kernel)
theorem gw_129 (mi : Nat) : (Jvm.Cond.code ({ cls := "PartitionKernel$Partition", name := "<init>", desc := "(I)V" } : Jvm.MethodName) prog_7_method_1_code (3 : Nat) (Option.none : Option Jvm.ClassFile.FieldType)) ∈ mq_ws pg_Z mi := mq_gw 129 mi (by decide +kernel) (by decide +kernel)
theorem gw_130 (mi : Nat) : (Jvm.Cond.methodLink "PartitionKernel$Partition" (3 : Nat) ({ cls := "java/lang/Object", name := "<init>", desc := "()V" } : Jvm.MethodName)) ∈ mq_ws pg_Z mi := mq_gw 130 mi (by decide +kernel) (by decide +kernel)
theorem gw_131 (mi : Nat) : (Jvm.Cond.classLink "PartitionKernel$Partition" (9 : Nat) "PartitionKernel$Memory") ∈ mq_ws pg_Z mi := mq_gw 131 mi (by decide +kernel) (by decide +kernel)
theorem gw_132 (mi : Nat) : (Jvm.Cond.instantiable "PartitionKernel$Memory" (1 : Nat)) ∈ mq_ws pg_Z mi := mq_gw 132 mi (by decide +kernel) (by decide +kernel)
theorem gw_134 (mi : Nat) : (Jvm.Cond.instanceMethod ({ cls := "PartitionKernel$Memory", name := "<init>", desc := "()V" } : Jvm.MethodName)) ∈ mq_ws pg_Z mi := mq_gw 134 mi (by decide +kernel) (by decide +kernel)
theorem gw_135 (mi : Nat) : (Jvm.Cond.code ({ cls := "PartitionKernel$Memory", name := "<init>", desc := "()V" } : Jvm.MethodName) prog_6_method_1_code (1 : Nat) (Option.none : Option Jvm.ClassFile.FieldType)) ∈ mq_ws pg_Z mi := mq_gw 135 mi (by decide +kernel) (by decide +kernel)
theorem gw_136 (mi : Nat) : (Jvm.Cond.methodLink "PartitionKernel$Memory" (3 : Nat) ({ cls := "java/lang/Object", name := "<init>", desc := "()V" } : Jvm.MethodName)) ∈ mq_ws pg_Z mi := mq_gw 136 mi (by decide +kernel) (by decide +kernel)
theorem gw_137 (mi : Nat) : (Jvm.Cond.fieldLink "PartitionKernel$Memory" (9 : Nat) "PartitionKernel$Memory" "words" "[I") ∈ mq_ws pg_Z mi := mq_gw 137 mi (by decide +kernel) (by decide +kernel)
theorem gw_138 (mi : Nat) : (Jvm.Cond.laysFinal "PartitionKernel$Memory" "PartitionKernel$Memory" "words" "[I") ∈ mq_ws pg_Z mi := mq_gw 138 mi (by decide +kernel) (by decide +kernel)
theorem gw_141 (mi : Nat) : (Jvm.Cond.classLink "PartitionKernel$Partition" (18 : Nat) "PartitionKernel$Proc") ∈ mq_ws pg_Z mi := mq_gw 141 mi (by decide +kernel) (by decide +kernel)
theorem gw_143 (mi : Nat) : (Jvm.Cond.instantiable "PartitionKernel$Proc" (14 : Nat)) ∈ mq_ws pg_Z mi := mq_gw 143 mi (by decide +kernel) (by decide +kernel)
theorem gw_144 (mi : Nat) : (Jvm.Cond.methodLink "PartitionKernel$Partition" (35 : Nat) ({ cls := "PartitionKernel$Proc", name := "<init>", desc := "(I)V" } : Jvm.MethodName)) ∈ mq_ws pg_Z mi := mq_gw 144 mi (by decide +kernel) (by decide +kernel)
theorem gw_145 (mi : Nat) : (Jvm.Cond.instanceMethod ({ cls := "PartitionKernel$Proc", name := "<init>", desc := "(I)V" } : Jvm.MethodName)) ∈ mq_ws pg_Z mi := mq_gw 145 mi (by decide +kernel) (by decide +kernel)
theorem gw_146 (mi : Nat) : (Jvm.Cond.code ({ cls := "PartitionKernel$Proc", name := "<init>", desc := "(I)V" } : Jvm.MethodName) prog_8_method_1_code (2 : Nat) (Option.none : Option Jvm.ClassFile.FieldType)) ∈ mq_ws pg_Z mi := mq_gw 146 mi (by decide +kernel) (by decide +kernel)
theorem gw_147 (mi : Nat) : (Jvm.Cond.methodLink "PartitionKernel$Proc" (3 : Nat) ({ cls := "java/lang/Object", name := "<init>", desc := "()V" } : Jvm.MethodName)) ∈ mq_ws pg_Z mi := mq_gw 147 mi (by decide +kernel) (by decide +kernel)
theorem gw_148 (mi : Nat) : (Jvm.Cond.fieldLink "PartitionKernel$Proc" (28 : Nat) "PartitionKernel$Proc" "number" "I") ∈ mq_ws pg_Z mi := mq_gw 148 mi (by decide +kernel) (by decide +kernel)
theorem gw_149 (mi : Nat) : (Jvm.Cond.fieldLink "PartitionKernel$Partition" (53 : Nat) "PartitionKernel$Proc" "number" "I") ∈ mq_ws pg_Z mi := mq_gw 149 mi (by decide +kernel) (by decide +kernel)
theorem gw_150 (mi : Nat) : (Jvm.Cond.fieldLink "PartitionKernel" (231 : Nat) "PartitionKernel$Proc" "number" "I") ∈ mq_ws pg_Z mi := mq_gw 150 mi (by decide +kernel) (by decide +kernel)
theorem gw_151 (mi : Nat) : (Jvm.Cond.fieldLink "PartitionKernel$Proc" (9 : Nat) "PartitionKernel$Proc" "registers" "[I") ∈ mq_ws pg_Z mi := mq_gw 151 mi (by decide +kernel) (by decide +kernel)
theorem gw_152 (mi : Nat) : (Jvm.Cond.fieldLink "PartitionKernel$Partition" (41 : Nat) "PartitionKernel$Proc" "entry" "I") ∈ mq_ws pg_Z mi := mq_gw 152 mi (by decide +kernel) (by decide +kernel)
theorem gw_153 (mi : Nat) : (Jvm.Cond.fieldLink "PartitionKernel$Proc" (31 : Nat) "PartitionKernel$Proc" "entry" "I") ∈ mq_ws pg_Z mi := mq_gw 153 mi (by decide +kernel) (by decide +kernel)
theorem gw_154 (mi : Nat) : (Jvm.Cond.fieldLink "PartitionKernel$Partition" (44 : Nat) "PartitionKernel$Proc" "priority" "I") ∈ mq_ws pg_Z mi := mq_gw 154 mi (by decide +kernel) (by decide +kernel)
theorem gw_155 (mi : Nat) : (Jvm.Cond.fieldLink "PartitionKernel$Proc" (43 : Nat) "PartitionKernel$Proc" "priority" "I") ∈ mq_ws pg_Z mi := mq_gw 155 mi (by decide +kernel) (by decide +kernel)
theorem gw_156 (mi : Nat) : (Jvm.Cond.fieldLink "PartitionKernel$Partition" (47 : Nat) "PartitionKernel$Proc" "period" "I") ∈ mq_ws pg_Z mi := mq_gw 156 mi (by decide +kernel) (by decide +kernel)
theorem gw_157 (mi : Nat) : (Jvm.Cond.fieldLink "PartitionKernel$Partition" (50 : Nat) "PartitionKernel$Proc" "deadline" "I") ∈ mq_ws pg_Z mi := mq_gw 157 mi (by decide +kernel) (by decide +kernel)
theorem gw_158 (mi : Nat) : (Jvm.Cond.fieldLink "PartitionKernel$Proc" (40 : Nat) "PartitionKernel$Proc" "deadline" "I") ∈ mq_ws pg_Z mi := mq_gw 158 mi (by decide +kernel) (by decide +kernel)
theorem gw_159 (mi : Nat) : (Jvm.Cond.fieldLink "PartitionKernel$Machine" (9 : Nat) "PartitionKernel$Proc" "pc" "I") ∈ mq_ws pg_Z mi := mq_gw 159 mi (by decide +kernel) (by decide +kernel)
theorem gw_160 (mi : Nat) : (Jvm.Cond.fieldLink "PartitionKernel$Proc" (34 : Nat) "PartitionKernel$Proc" "pc" "I") ∈ mq_ws pg_Z mi := mq_gw 160 mi (by decide +kernel) (by decide +kernel)
theorem gw_161 (mi : Nat) : (Jvm.Cond.fieldLink "PartitionKernel" (250 : Nat) "PartitionKernel$Proc" "pc" "I") ∈ mq_ws pg_Z mi := mq_gw 161 mi (by decide +kernel) (by decide +kernel)
theorem gw_162 (mi : Nat) : (Jvm.Cond.fieldLink "PartitionKernel$Proc" (15 : Nat) "PartitionKernel$Proc" "state" "I") ∈ mq_ws pg_Z mi := mq_gw 162 mi (by decide +kernel) (by decide +kernel)
theorem gw_163 (mi : Nat) : (Jvm.Cond.fieldLink "PartitionKernel$Partition" (90 : Nat) "PartitionKernel$Proc" "state" "I") ∈ mq_ws pg_Z mi := mq_gw 163 mi (by decide +kernel) (by decide +kernel)
theorem gw_164 (mi : Nat) : (Jvm.Cond.fieldLink "PartitionKernel$Proc" (19 : Nat) "PartitionKernel$Proc" "due" "I") ∈ mq_ws pg_Z mi := mq_gw 164 mi (by decide +kernel) (by decide +kernel)
theorem gw_165 (mi : Nat) : (Jvm.Cond.fieldLink "PartitionKernel$Partition" (83 : Nat) "PartitionKernel$Proc" "due" "I") ∈ mq_ws pg_Z mi := mq_gw 165 mi (by decide +kernel) (by decide +kernel)
theorem gw_166 (mi : Nat) : (Jvm.Cond.fieldLink "PartitionKernel" (225 : Nat) "PartitionKernel$Proc" "due" "I") ∈ mq_ws pg_Z mi := mq_gw 166 mi (by decide +kernel) (by decide +kernel)
theorem gw_167 (mi : Nat) : (Jvm.Cond.fieldLink "PartitionKernel$Proc" (37 : Nat) "PartitionKernel$Proc" "release" "I") ∈ mq_ws pg_Z mi := mq_gw 167 mi (by decide +kernel) (by decide +kernel)
theorem gw_168 (mi : Nat) : (Jvm.Cond.fieldLink "PartitionKernel$Partition" (100 : Nat) "PartitionKernel$Proc" "release" "I") ∈ mq_ws pg_Z mi := mq_gw 168 mi (by decide +kernel) (by decide +kernel)
theorem gw_169 (mi : Nat) : (Jvm.Cond.fieldLink "PartitionKernel$Proc" (22 : Nat) "PartitionKernel$Proc" "waitTime" "I") ∈ mq_ws pg_Z mi := mq_gw 169 mi (by decide +kernel) (by decide +kernel)
theorem gw_170 (mi : Nat) : (Jvm.Cond.fieldLink "PartitionKernel$Partition" (116 : Nat) "PartitionKernel$Proc" "waitTime" "I") ∈ mq_ws pg_Z mi := mq_gw 170 mi (by decide +kernel) (by decide +kernel)
theorem gw_171 (mi : Nat) : (Jvm.Cond.fieldLink "PartitionKernel$Proc" (25 : Nat) "PartitionKernel$Proc" "semaphore" "I") ∈ mq_ws pg_Z mi := mq_gw 171 mi (by decide +kernel) (by decide +kernel)
theorem gw_172 (mi : Nat) : (Jvm.Cond.fieldLink "PartitionKernel$Partition" (93 : Nat) "PartitionKernel$Proc" "semaphore" "I") ∈ mq_ws pg_Z mi := mq_gw 172 mi (by decide +kernel) (by decide +kernel)
theorem gw_173 (mi : Nat) : (Jvm.Cond.fieldLink "PartitionKernel$Proc" (46 : Nat) "PartitionKernel$Proc" "order" "I") ∈ mq_ws pg_Z mi := mq_gw 173 mi (by decide +kernel) (by decide +kernel)
theorem gw_174 (mi : Nat) : (Jvm.Cond.fieldLink "PartitionKernel$Partition" (122 : Nat) "PartitionKernel$Proc" "order" "I") ∈ mq_ws pg_Z mi := mq_gw 174 mi (by decide +kernel) (by decide +kernel)
theorem gw_175 (mi : Nat) : (Jvm.Cond.fieldLink "PartitionKernel$Proc" (49 : Nat) "PartitionKernel$Proc" "done" "I") ∈ mq_ws pg_Z mi := mq_gw 175 mi (by decide +kernel) (by decide +kernel)
theorem gw_176 (mi : Nat) : (Jvm.Cond.fieldLink "PartitionKernel" (200 : Nat) "PartitionKernel$Proc" "done" "I") ∈ mq_ws pg_Z mi := mq_gw 176 mi (by decide +kernel) (by decide +kernel)
theorem gw_177 (mi : Nat) : (Jvm.Cond.laysFinal "PartitionKernel$Proc" "PartitionKernel$Proc" "number" "I") ∈ mq_ws pg_Z mi := mq_gw 177 mi (by decide +kernel) (by decide +kernel)
theorem gw_179 (mi : Nat) : (Jvm.Cond.laysFinal "PartitionKernel$Proc" "PartitionKernel$Proc" "registers" "[I") ∈ mq_ws pg_Z mi := mq_gw 179 mi (by decide +kernel) (by decide +kernel)
theorem gw_181 (mi : Nat) : (Jvm.Cond.lays "PartitionKernel$Proc" "PartitionKernel$Proc" "entry" "I") ∈ mq_ws pg_Z mi := mq_gw 181 mi (by decide +kernel) (by decide +kernel)
theorem gw_183 (mi : Nat) : (Jvm.Cond.lays "PartitionKernel$Proc" "PartitionKernel$Proc" "priority" "I") ∈ mq_ws pg_Z mi := mq_gw 183 mi (by decide +kernel) (by decide +kernel)
theorem gw_185 (mi : Nat) : (Jvm.Cond.lays "PartitionKernel$Proc" "PartitionKernel$Proc" "period" "I") ∈ mq_ws pg_Z mi := mq_gw 185 mi (by decide +kernel) (by decide +kernel)
theorem gw_187 (mi : Nat) : (Jvm.Cond.lays "PartitionKernel$Proc" "PartitionKernel$Proc" "deadline" "I") ∈ mq_ws pg_Z mi := mq_gw 187 mi (by decide +kernel) (by decide +kernel)
theorem gw_189 (mi : Nat) : (Jvm.Cond.lays "PartitionKernel$Proc" "PartitionKernel$Proc" "pc" "I") ∈ mq_ws pg_Z mi := mq_gw 189 mi (by decide +kernel) (by decide +kernel)
theorem gw_191 (mi : Nat) : (Jvm.Cond.lays "PartitionKernel$Proc" "PartitionKernel$Proc" "state" "I") ∈ mq_ws pg_Z mi := mq_gw 191 mi (by decide +kernel) (by decide +kernel)
theorem gw_193 (mi : Nat) : (Jvm.Cond.lays "PartitionKernel$Proc" "PartitionKernel$Proc" "due" "I") ∈ mq_ws pg_Z mi := mq_gw 193 mi (by decide +kernel) (by decide +kernel)
theorem gw_195 (mi : Nat) : (Jvm.Cond.lays "PartitionKernel$Proc" "PartitionKernel$Proc" "release" "I") ∈ mq_ws pg_Z mi := mq_gw 195 mi (by decide +kernel) (by decide +kernel)
theorem gw_197 (mi : Nat) : (Jvm.Cond.lays "PartitionKernel$Proc" "PartitionKernel$Proc" "waitTime" "I") ∈ mq_ws pg_Z mi := mq_gw 197 mi (by decide +kernel) (by decide +kernel)
theorem gw_199 (mi : Nat) : (Jvm.Cond.lays "PartitionKernel$Proc" "PartitionKernel$Proc" "semaphore" "I") ∈ mq_ws pg_Z mi := mq_gw 199 mi (by decide +kernel) (by decide +kernel)
theorem gw_201 (mi : Nat) : (Jvm.Cond.lays "PartitionKernel$Proc" "PartitionKernel$Proc" "order" "I") ∈ mq_ws pg_Z mi := mq_gw 201 mi (by decide +kernel) (by decide +kernel)
theorem gw_203 (mi : Nat) : (Jvm.Cond.lays "PartitionKernel$Proc" "PartitionKernel$Proc" "done" "I") ∈ mq_ws pg_Z mi := mq_gw 203 mi (by decide +kernel) (by decide +kernel)
theorem gw_206 (mi : Nat) : (Jvm.Cond.fieldLink "PartitionKernel$Partition" (31 : Nat) "PartitionKernel$Partition" "number" "I") ∈ mq_ws pg_Z mi := mq_gw 206 mi (by decide +kernel) (by decide +kernel)
theorem gw_207 (mi : Nat) : (Jvm.Cond.fieldLink "PartitionKernel" (228 : Nat) "PartitionKernel$Partition" "number" "I") ∈ mq_ws pg_Z mi := mq_gw 207 mi (by decide +kernel) (by decide +kernel)
theorem gw_208 (mi : Nat) : (Jvm.Cond.fieldLink "PartitionKernel$Partition" (12 : Nat) "PartitionKernel$Partition" "memory" "LPartitionKernel$Memory;") ∈ mq_ws pg_Z mi := mq_gw 208 mi (by decide +kernel) (by decide +kernel)
theorem gw_209 (mi : Nat) : (Jvm.Cond.fieldLink "PartitionKernel" (114 : Nat) "PartitionKernel$Partition" "memory" "LPartitionKernel$Memory;") ∈ mq_ws pg_Z mi := mq_gw 209 mi (by decide +kernel) (by decide +kernel)
theorem gw_210 (mi : Nat) : (Jvm.Cond.fieldLink "PartitionKernel$Partition" (20 : Nat) "PartitionKernel$Partition" "processes" "[LPartitionKernel$Proc;") ∈ mq_ws pg_Z mi := mq_gw 210 mi (by decide +kernel) (by decide +kernel)
theorem gw_211 (mi : Nat) : (Jvm.Cond.fieldLink "PartitionKernel" (218 : Nat) "PartitionKernel$Partition" "processes" "[LPartitionKernel$Proc;") ∈ mq_ws pg_Z mi := mq_gw 211 mi (by decide +kernel) (by decide +kernel)
theorem gw_212 (mi : Nat) : (Jvm.Cond.fieldLink "PartitionKernel$Partition" (24 : Nat) "PartitionKernel$Partition" "semaphores" "[I") ∈ mq_ws pg_Z mi := mq_gw 212 mi (by decide +kernel) (by decide +kernel)
theorem gw_213 (mi : Nat) : (Jvm.Cond.fieldLink "PartitionKernel$Partition" (28 : Nat) "PartitionKernel$Partition" "actions" "[I") ∈ mq_ws pg_Z mi := mq_gw 213 mi (by decide +kernel) (by decide +kernel)
theorem gw_214 (mi : Nat) : (Jvm.Cond.fieldLink "PartitionKernel" (103 : Nat) "PartitionKernel$Partition" "actions" "[I") ∈ mq_ws pg_Z mi := mq_gw 214 mi (by decide +kernel) (by decide +kernel)
theorem gw_215 (mi : Nat) : (Jvm.Cond.fieldLink "PartitionKernel$Partition" (38 : Nat) "PartitionKernel$Partition" "count" "I") ∈ mq_ws pg_Z mi := mq_gw 215 mi (by decide +kernel) (by decide +kernel)
theorem gw_216 (mi : Nat) : (Jvm.Cond.fieldLink "PartitionKernel" (217 : Nat) "PartitionKernel$Partition" "count" "I") ∈ mq_ws pg_Z mi := mq_gw 216 mi (by decide +kernel) (by decide +kernel)
theorem gw_217 (mi : Nat) : (Jvm.Cond.fieldLink "PartitionKernel$Partition" (119 : Nat) "PartitionKernel$Partition" "nextOrder" "I") ∈ mq_ws pg_Z mi := mq_gw 217 mi (by decide +kernel) (by decide +kernel)
theorem gw_218 (mi : Nat) : (Jvm.Cond.fieldLink "PartitionKernel$Partition" (62 : Nat) "PartitionKernel$Partition" "restarts" "I") ∈ mq_ws pg_Z mi := mq_gw 218 mi (by decide +kernel) (by decide +kernel)
theorem gw_219 (mi : Nat) : (Jvm.Cond.fieldLink "PartitionKernel" (247 : Nat) "PartitionKernel$Partition" "restarts" "I") ∈ mq_ws pg_Z mi := mq_gw 219 mi (by decide +kernel) (by decide +kernel)
theorem gw_220 (mi : Nat) : (Jvm.Cond.fieldLink "PartitionKernel$Partition" (54 : Nat) "PartitionKernel$Partition" "stopped" "Z") ∈ mq_ws pg_Z mi := mq_gw 220 mi (by decide +kernel) (by decide +kernel)
theorem gw_221 (mi : Nat) : (Jvm.Cond.fieldLink "PartitionKernel" (144 : Nat) "PartitionKernel$Partition" "stopped" "Z") ∈ mq_ws pg_Z mi := mq_gw 221 mi (by decide +kernel) (by decide +kernel)
theorem gw_222 (mi : Nat) : (Jvm.Cond.laysFinal "PartitionKernel$Partition" "PartitionKernel$Partition" "number" "I") ∈ mq_ws pg_Z mi := mq_gw 222 mi (by decide +kernel) (by decide +kernel)
theorem gw_224 (mi : Nat) : (Jvm.Cond.laysFinal "PartitionKernel$Partition" "PartitionKernel$Partition" "memory" "LPartitionKernel$Memory;") ∈ mq_ws pg_Z mi := mq_gw 224 mi (by decide +kernel) (by decide +kernel)
theorem gw_226 (mi : Nat) : (Jvm.Cond.laysFinal "PartitionKernel$Partition" "PartitionKernel$Partition" "processes" "[LPartitionKernel$Proc;") ∈ mq_ws pg_Z mi := mq_gw 226 mi (by decide +kernel) (by decide +kernel)
theorem gw_228 (mi : Nat) : (Jvm.Cond.laysFinal "PartitionKernel$Partition" "PartitionKernel$Partition" "semaphores" "[I") ∈ mq_ws pg_Z mi := mq_gw 228 mi (by decide +kernel) (by decide +kernel)
theorem gw_230 (mi : Nat) : (Jvm.Cond.laysFinal "PartitionKernel$Partition" "PartitionKernel$Partition" "actions" "[I") ∈ mq_ws pg_Z mi := mq_gw 230 mi (by decide +kernel) (by decide +kernel)
theorem gw_232 (mi : Nat) : (Jvm.Cond.lays "PartitionKernel$Partition" "PartitionKernel$Partition" "count" "I") ∈ mq_ws pg_Z mi := mq_gw 232 mi (by decide +kernel) (by decide +kernel)
theorem gw_234 (mi : Nat) : (Jvm.Cond.lays "PartitionKernel$Partition" "PartitionKernel$Partition" "nextOrder" "I") ∈ mq_ws pg_Z mi := mq_gw 234 mi (by decide +kernel) (by decide +kernel)
theorem gw_236 (mi : Nat) : (Jvm.Cond.lays "PartitionKernel$Partition" "PartitionKernel$Partition" "restarts" "I") ∈ mq_ws pg_Z mi := mq_gw 236 mi (by decide +kernel) (by decide +kernel)
theorem gw_238 (mi : Nat) : (Jvm.Cond.lays "PartitionKernel$Partition" "PartitionKernel$Partition" "stopped" "Z") ∈ mq_ws pg_Z mi := mq_gw 238 mi (by decide +kernel) (by decide +kernel)
theorem gw_241 (mi : Nat) : (Jvm.Cond.instantiable "PartitionKernel$Channel" (8 : Nat)) ∈ mq_ws pg_Z mi := mq_gw 241 mi (by decide +kernel) (by decide +kernel)
theorem gw_243 (mi : Nat) : (Jvm.Cond.instanceMethod ({ cls := "PartitionKernel$Channel", name := "<init>", desc := "()V" } : Jvm.MethodName)) ∈ mq_ws pg_Z mi := mq_gw 243 mi (by decide +kernel) (by decide +kernel)
theorem gw_244 (mi : Nat) : (Jvm.Cond.code ({ cls := "PartitionKernel$Channel", name := "<init>", desc := "()V" } : Jvm.MethodName) prog_2_method_1_code (1 : Nat) (Option.none : Option Jvm.ClassFile.FieldType)) ∈ mq_ws pg_Z mi := mq_gw 244 mi (by decide +kernel) (by decide +kernel)
theorem gw_245 (mi : Nat) : (Jvm.Cond.methodLink "PartitionKernel$Channel" (3 : Nat) ({ cls := "java/lang/Object", name := "<init>", desc := "()V" } : Jvm.MethodName)) ∈ mq_ws pg_Z mi := mq_gw 245 mi (by decide +kernel) (by decide +kernel)
theorem gw_246 (mi : Nat) : (Jvm.Cond.fieldLink "PartitionKernel$Channel" (9 : Nat) "PartitionKernel$Channel" "words" "[I") ∈ mq_ws pg_Z mi := mq_gw 246 mi (by decide +kernel) (by decide +kernel)
theorem gw_247 (mi : Nat) : (Jvm.Cond.fieldLink "PartitionKernel$Channel" (19 : Nat) "PartitionKernel$Channel" "queue" "Z") ∈ mq_ws pg_Z mi := mq_gw 247 mi (by decide +kernel) (by decide +kernel)
theorem gw_248 (mi : Nat) : (Jvm.Cond.fieldLink "PartitionKernel$Channel" (23 : Nat) "PartitionKernel$Channel" "from" "I") ∈ mq_ws pg_Z mi := mq_gw 248 mi (by decide +kernel) (by decide +kernel)
theorem gw_249 (mi : Nat) : (Jvm.Cond.fieldLink "PartitionKernel" (289 : Nat) "PartitionKernel$Channel" "from" "I") ∈ mq_ws pg_Z mi := mq_gw 249 mi (by decide +kernel) (by decide +kernel)
theorem gw_250 (mi : Nat) : (Jvm.Cond.fieldLink "PartitionKernel$Channel" (26 : Nat) "PartitionKernel$Channel" "to" "I") ∈ mq_ws pg_Z mi := mq_gw 250 mi (by decide +kernel) (by decide +kernel)
theorem gw_251 (mi : Nat) : (Jvm.Cond.fieldLink "PartitionKernel" (295 : Nat) "PartitionKernel$Channel" "to" "I") ∈ mq_ws pg_Z mi := mq_gw 251 mi (by decide +kernel) (by decide +kernel)
theorem gw_252 (mi : Nat) : (Jvm.Cond.fieldLink "PartitionKernel$Channel" (29 : Nat) "PartitionKernel$Channel" "limit" "I") ∈ mq_ws pg_Z mi := mq_gw 252 mi (by decide +kernel) (by decide +kernel)
theorem gw_253 (mi : Nat) : (Jvm.Cond.fieldLink "PartitionKernel$Channel" (39 : Nat) "PartitionKernel$Channel" "head" "I") ∈ mq_ws pg_Z mi := mq_gw 253 mi (by decide +kernel) (by decide +kernel)
theorem gw_254 (mi : Nat) : (Jvm.Cond.fieldLink "PartitionKernel$Channel" (32 : Nat) "PartitionKernel$Channel" "count" "I") ∈ mq_ws pg_Z mi := mq_gw 254 mi (by decide +kernel) (by decide +kernel)
theorem gw_255 (mi : Nat) : (Jvm.Cond.fieldLink "PartitionKernel" (298 : Nat) "PartitionKernel$Channel" "count" "I") ∈ mq_ws pg_Z mi := mq_gw 255 mi (by decide +kernel) (by decide +kernel)
theorem gw_256 (mi : Nat) : (Jvm.Cond.fieldLink "PartitionKernel$Channel" (15 : Nat) "PartitionKernel$Channel" "sentAt" "I") ∈ mq_ws pg_Z mi := mq_gw 256 mi (by decide +kernel) (by decide +kernel)
theorem gw_257 (mi : Nat) : (Jvm.Cond.laysFinal "PartitionKernel$Channel" "PartitionKernel$Channel" "words" "[I") ∈ mq_ws pg_Z mi := mq_gw 257 mi (by decide +kernel) (by decide +kernel)
theorem gw_259 (mi : Nat) : (Jvm.Cond.lays "PartitionKernel$Channel" "PartitionKernel$Channel" "queue" "Z") ∈ mq_ws pg_Z mi := mq_gw 259 mi (by decide +kernel) (by decide +kernel)
theorem gw_261 (mi : Nat) : (Jvm.Cond.lays "PartitionKernel$Channel" "PartitionKernel$Channel" "from" "I") ∈ mq_ws pg_Z mi := mq_gw 261 mi (by decide +kernel) (by decide +kernel)
theorem gw_263 (mi : Nat) : (Jvm.Cond.lays "PartitionKernel$Channel" "PartitionKernel$Channel" "to" "I") ∈ mq_ws pg_Z mi := mq_gw 263 mi (by decide +kernel) (by decide +kernel)
theorem gw_265 (mi : Nat) : (Jvm.Cond.lays "PartitionKernel$Channel" "PartitionKernel$Channel" "limit" "I") ∈ mq_ws pg_Z mi := mq_gw 265 mi (by decide +kernel) (by decide +kernel)
theorem gw_267 (mi : Nat) : (Jvm.Cond.lays "PartitionKernel$Channel" "PartitionKernel$Channel" "head" "I") ∈ mq_ws pg_Z mi := mq_gw 267 mi (by decide +kernel) (by decide +kernel)
theorem gw_269 (mi : Nat) : (Jvm.Cond.lays "PartitionKernel$Channel" "PartitionKernel$Channel" "count" "I") ∈ mq_ws pg_Z mi := mq_gw 269 mi (by decide +kernel) (by decide +kernel)
theorem gw_271 (mi : Nat) : (Jvm.Cond.lays "PartitionKernel$Channel" "PartitionKernel$Channel" "sentAt" "I") ∈ mq_ws pg_Z mi := mq_gw 271 mi (by decide +kernel) (by decide +kernel)
theorem gw_274 (mi : Nat) : (Jvm.Cond.fieldLink "PartitionKernel" (11 : Nat) "PartitionKernel" "partitions" "[LPartitionKernel$Partition;") ∈ mq_ws pg_Z mi := mq_gw 274 mi (by decide +kernel) (by decide +kernel)
theorem gw_275 (mi : Nat) : (Jvm.Cond.fieldLink "PartitionKernel" (17 : Nat) "PartitionKernel" "channels" "[LPartitionKernel$Channel;") ∈ mq_ws pg_Z mi := mq_gw 275 mi (by decide +kernel) (by decide +kernel)
theorem gw_276 (mi : Nat) : (Jvm.Cond.fieldLink "PartitionKernel" (24 : Nat) "PartitionKernel" "frame" "LPartitionKernel$Frame;") ∈ mq_ws pg_Z mi := mq_gw 276 mi (by decide +kernel) (by decide +kernel)
theorem gw_277 (mi : Nat) : (Jvm.Cond.fieldLink "PartitionKernel" (31 : Nat) "PartitionKernel" "log" "LPartitionKernel$ErrorLog;") ∈ mq_ws pg_Z mi := mq_gw 277 mi (by decide +kernel) (by decide +kernel)
theorem gw_278 (mi : Nat) : (Jvm.Cond.fieldLink "PartitionKernel" (89 : Nat) "PartitionKernel" "channelCount" "I") ∈ mq_ws pg_Z mi := mq_gw 278 mi (by decide +kernel) (by decide +kernel)
theorem gw_279 (mi : Nat) : (Jvm.Cond.fieldLink "PartitionKernel" (127 : Nat) "PartitionKernel" "time" "I") ∈ mq_ws pg_Z mi := mq_gw 279 mi (by decide +kernel) (by decide +kernel)
theorem gw_280 (mi : Nat) : (Jvm.Cond.fieldLink "PartitionKernel" (137 : Nat) "PartitionKernel" "instructions" "I") ∈ mq_ws pg_Z mi := mq_gw 280 mi (by decide +kernel) (by decide +kernel)
theorem gw_281 (mi : Nat) : (Jvm.Cond.fieldLink "PartitionKernel" (55 : Nat) "PartitionKernel" "begun" "Z") ∈ mq_ws pg_Z mi := mq_gw 281 mi (by decide +kernel) (by decide +kernel)
theorem gw_282 (mi : Nat) : (Jvm.Cond.laysFinal "PartitionKernel" "PartitionKernel" "partitions" "[LPartitionKernel$Partition;") ∈ mq_ws pg_Z mi := mq_gw 282 mi (by decide +kernel) (by decide +kernel)
theorem gw_284 (mi : Nat) : (Jvm.Cond.laysFinal "PartitionKernel" "PartitionKernel" "channels" "[LPartitionKernel$Channel;") ∈ mq_ws pg_Z mi := mq_gw 284 mi (by decide +kernel) (by decide +kernel)
theorem gw_286 (mi : Nat) : (Jvm.Cond.laysFinal "PartitionKernel" "PartitionKernel" "frame" "LPartitionKernel$Frame;") ∈ mq_ws pg_Z mi := mq_gw 286 mi (by decide +kernel) (by decide +kernel)
theorem gw_288 (mi : Nat) : (Jvm.Cond.laysFinal "PartitionKernel" "PartitionKernel" "log" "LPartitionKernel$ErrorLog;") ∈ mq_ws pg_Z mi := mq_gw 288 mi (by decide +kernel) (by decide +kernel)
theorem gw_290 (mi : Nat) : (Jvm.Cond.lays "PartitionKernel" "PartitionKernel" "channelCount" "I") ∈ mq_ws pg_Z mi := mq_gw 290 mi (by decide +kernel) (by decide +kernel)
theorem gw_292 (mi : Nat) : (Jvm.Cond.lays "PartitionKernel" "PartitionKernel" "time" "I") ∈ mq_ws pg_Z mi := mq_gw 292 mi (by decide +kernel) (by decide +kernel)
theorem gw_294 (mi : Nat) : (Jvm.Cond.lays "PartitionKernel" "PartitionKernel" "instructions" "I") ∈ mq_ws pg_Z mi := mq_gw 294 mi (by decide +kernel) (by decide +kernel)
theorem gw_296 (mi : Nat) : (Jvm.Cond.lays "PartitionKernel" "PartitionKernel" "begun" "Z") ∈ mq_ws pg_Z mi := mq_gw 296 mi (by decide +kernel) (by decide +kernel)
theorem gw_303 (mi : Nat) : (Jvm.Cond.methodLink "PartitionKernel" (68 : Nat) ({ cls := "PartitionKernel", name := "partitionAt", desc := "(I)LPartitionKernel$Partition;" } : Jvm.MethodName)) ∈ mq_ws pg_Z mi := mq_gw 303 mi (by decide +kernel) (by decide +kernel)
theorem gw_305 (mi : Nat) : (Jvm.Cond.instanceMethod ({ cls := "PartitionKernel", name := "partitionAt", desc := "(I)LPartitionKernel$Partition;" } : Jvm.MethodName)) ∈ mq_ws pg_Z mi := mq_gw 305 mi (by decide +kernel) (by decide +kernel)
theorem gw_306 (mi : Nat) : (Jvm.Cond.code ({ cls := "PartitionKernel", name := "partitionAt", desc := "(I)LPartitionKernel$Partition;" } : Jvm.MethodName) prog_1_method_20_code (2 : Nat) (Option.some (Jvm.ClassFile.FieldType.object "PartitionKernel$Partition"))) ∈ mq_ws pg_Z mi := mq_gw 306 mi (by decide +kernel) (by decide +kernel)
theorem gw_307 (mi : Nat) : (Jvm.Cond.methodLink "PartitionKernel" (39 : Nat) ({ cls := "PartitionKernel", name := "isPartition", desc := "(I)Z" } : Jvm.MethodName)) ∈ mq_ws pg_Z mi := mq_gw 307 mi (by decide +kernel) (by decide +kernel)
theorem gw_308 (mi : Nat) : (Jvm.Cond.static ({ cls := "PartitionKernel", name := "isPartition", desc := "(I)Z" } : Jvm.MethodName)) ∈ mq_ws pg_Z mi := mq_gw 308 mi (by decide +kernel) (by decide +kernel)
theorem gw_309 (mi : Nat) : (Jvm.Cond.code ({ cls := "PartitionKernel", name := "isPartition", desc := "(I)Z" } : Jvm.MethodName) prog_1_method_17_code (1 : Nat) (Option.some Jvm.ClassFile.FieldType.boolean)) ∈ mq_ws pg_Z mi := mq_gw 309 mi (by decide +kernel) (by decide +kernel)
theorem gw_310 (mi : Nat) : (Jvm.Cond.methodLink "PartitionKernel" (154 : Nat) ({ cls := "PartitionKernel$Memory", name := "readWord", desc := "(I)I" } : Jvm.MethodName)) ∈ mq_ws pg_Z mi := mq_gw 310 mi (by decide +kernel) (by decide +kernel)
theorem gw_311 (mi : Nat) : (Jvm.Cond.instanceMethod ({ cls := "PartitionKernel$Memory", name := "readWord", desc := "(I)I" } : Jvm.MethodName)) ∈ mq_ws pg_Z mi := mq_gw 311 mi (by decide +kernel) (by decide +kernel)
theorem gw_312 (mi : Nat) : (Jvm.Cond.selects "PartitionKernel$Memory" ({ cls := "PartitionKernel$Memory", name := "readWord", desc := "(I)I" } : Jvm.MethodName) ({ cls := "PartitionKernel$Memory", name := "readWord", desc := "(I)I" } : Jvm.MethodName)) ∈ mq_ws pg_Z mi := mq_gw 312 mi (by decide +kernel) (by decide +kernel)
theorem gw_313 (mi : Nat) : (Jvm.Cond.code ({ cls := "PartitionKernel$Memory", name := "readWord", desc := "(I)I" } : Jvm.MethodName) prog_6_method_3_code (2 : Nat) (Option.some Jvm.ClassFile.FieldType.int)) ∈ mq_ws pg_Z mi := mq_gw 313 mi (by decide +kernel) (by decide +kernel)
theorem gw_314 (mi : Nat) : (Jvm.Cond.methodLink "PartitionKernel$Memory" (15 : Nat) ({ cls := "PartitionKernel$Memory", name := "holds", desc := "(II)Z" } : Jvm.MethodName)) ∈ mq_ws pg_Z mi := mq_gw 314 mi (by decide +kernel) (by decide +kernel)
theorem gw_315 (mi : Nat) : (Jvm.Cond.static ({ cls := "PartitionKernel$Memory", name := "holds", desc := "(II)Z" } : Jvm.MethodName)) ∈ mq_ws pg_Z mi := mq_gw 315 mi (by decide +kernel) (by decide +kernel)
theorem gw_316 (mi : Nat) : (Jvm.Cond.code ({ cls := "PartitionKernel$Memory", name := "holds", desc := "(II)Z" } : Jvm.MethodName) prog_6_method_2_code (2 : Nat) (Option.some Jvm.ClassFile.FieldType.boolean)) ∈ mq_ws pg_Z mi := mq_gw 316 mi (by decide +kernel) (by decide +kernel)
theorem gw_321 (mi : Nat) : (Jvm.Cond.methodLink "PartitionKernel" (158 : Nat) ({ cls := "PartitionKernel", name := "processAt", desc := "(II)LPartitionKernel$Proc;" } : Jvm.MethodName)) ∈ mq_ws pg_Z mi := mq_gw 321 mi (by decide +kernel) (by decide +kernel)
theorem gw_323 (mi : Nat) : (Jvm.Cond.instanceMethod ({ cls := "PartitionKernel", name := "processAt", desc := "(II)LPartitionKernel$Proc;" } : Jvm.MethodName)) ∈ mq_ws pg_Z mi := mq_gw 323 mi (by decide +kernel) (by decide +kernel)
theorem gw_324 (mi : Nat) : (Jvm.Cond.code ({ cls := "PartitionKernel", name := "processAt", desc := "(II)LPartitionKernel$Proc;" } : Jvm.MethodName) prog_1_method_21_code (4 : Nat) (Option.some (Jvm.ClassFile.FieldType.object "PartitionKernel$Proc"))) ∈ mq_ws pg_Z mi := mq_gw 324 mi (by decide +kernel) (by decide +kernel)
theorem gw_325 (mi : Nat) : (Jvm.Cond.methodLink "PartitionKernel" (186 : Nat) ({ cls := "PartitionKernel$Partition", name := "find", desc := "(I)LPartitionKernel$Proc;" } : Jvm.MethodName)) ∈ mq_ws pg_Z mi := mq_gw 325 mi (by decide +kernel) (by decide +kernel)
theorem gw_326 (mi : Nat) : (Jvm.Cond.instanceMethod ({ cls := "PartitionKernel$Partition", name := "find", desc := "(I)LPartitionKernel$Proc;" } : Jvm.MethodName)) ∈ mq_ws pg_Z mi := mq_gw 326 mi (by decide +kernel) (by decide +kernel)
theorem gw_327 (mi : Nat) : (Jvm.Cond.selects "PartitionKernel$Partition" ({ cls := "PartitionKernel$Partition", name := "find", desc := "(I)LPartitionKernel$Proc;" } : Jvm.MethodName) ({ cls := "PartitionKernel$Partition", name := "find", desc := "(I)LPartitionKernel$Proc;" } : Jvm.MethodName)) ∈ mq_ws pg_Z mi := mq_gw 327 mi (by decide +kernel) (by decide +kernel)
theorem gw_328 (mi : Nat) : (Jvm.Cond.code ({ cls := "PartitionKernel$Partition", name := "find", desc := "(I)LPartitionKernel$Proc;" } : Jvm.MethodName) prog_7_method_3_code (2 : Nat) (Option.some (Jvm.ClassFile.FieldType.object "PartitionKernel$Proc"))) ∈ mq_ws pg_Z mi := mq_gw 328 mi (by decide +kernel) (by decide +kernel)
theorem gw_329 (mi : Nat) : (Jvm.Cond.methodLink "PartitionKernel" (162 : Nat) ({ cls := "PartitionKernel$Proc", name := "get", desc := "(I)I" } : Jvm.MethodName)) ∈ mq_ws pg_Z mi := mq_gw 329 mi (by decide +kernel) (by decide +kernel)
theorem gw_330 (mi : Nat) : (Jvm.Cond.instanceMethod ({ cls := "PartitionKernel$Proc", name := "get", desc := "(I)I" } : Jvm.MethodName)) ∈ mq_ws pg_Z mi := mq_gw 330 mi (by decide +kernel) (by decide +kernel)
theorem gw_331 (mi : Nat) : (Jvm.Cond.selects "PartitionKernel$Proc" ({ cls := "PartitionKernel$Proc", name := "get", desc := "(I)I" } : Jvm.MethodName) ({ cls := "PartitionKernel$Proc", name := "get", desc := "(I)I" } : Jvm.MethodName)) ∈ mq_ws pg_Z mi := mq_gw 331 mi (by decide +kernel) (by decide +kernel)
theorem gw_332 (mi : Nat) : (Jvm.Cond.code ({ cls := "PartitionKernel$Proc", name := "get", desc := "(I)I" } : Jvm.MethodName) prog_8_method_2_code (2 : Nat) (Option.some Jvm.ClassFile.FieldType.int)) ∈ mq_ws pg_Z mi := mq_gw 332 mi (by decide +kernel) (by decide +kernel)
theorem gw_337 (mi : Nat) : (Jvm.Cond.methodLink "PartitionKernel" (167 : Nat) ({ cls := "PartitionKernel$Proc", name := "tell", desc := "(I)I" } : Jvm.MethodName)) ∈ mq_ws pg_Z mi := mq_gw 337 mi (by decide +kernel) (by decide +kernel)
theorem gw_338 (mi : Nat) : (Jvm.Cond.instanceMethod ({ cls := "PartitionKernel$Proc", name := "tell", desc := "(I)I" } : Jvm.MethodName)) ∈ mq_ws pg_Z mi := mq_gw 338 mi (by decide +kernel) (by decide +kernel)
theorem gw_339 (mi : Nat) : (Jvm.Cond.selects "PartitionKernel$Proc" ({ cls := "PartitionKernel$Proc", name := "tell", desc := "(I)I" } : Jvm.MethodName) ({ cls := "PartitionKernel$Proc", name := "tell", desc := "(I)I" } : Jvm.MethodName)) ∈ mq_ws pg_Z mi := mq_gw 339 mi (by decide +kernel) (by decide +kernel)
theorem gw_340 (mi : Nat) : (Jvm.Cond.code ({ cls := "PartitionKernel$Proc", name := "tell", desc := "(I)I" } : Jvm.MethodName) prog_8_method_8_code (2 : Nat) (Option.some Jvm.ClassFile.FieldType.int)) ∈ mq_ws pg_Z mi := mq_gw 340 mi (by decide +kernel) (by decide +kernel)
theorem gw_345 (mi : Nat) : (Jvm.Cond.methodLink "PartitionKernel" (170 : Nat) ({ cls := "PartitionKernel$Partition", name := "tell", desc := "(I)I" } : Jvm.MethodName)) ∈ mq_ws pg_Z mi := mq_gw 345 mi (by decide +kernel) (by decide +kernel)
theorem gw_346 (mi : Nat) : (Jvm.Cond.instanceMethod ({ cls := "PartitionKernel$Partition", name := "tell", desc := "(I)I" } : Jvm.MethodName)) ∈ mq_ws pg_Z mi := mq_gw 346 mi (by decide +kernel) (by decide +kernel)
theorem gw_347 (mi : Nat) : (Jvm.Cond.selects "PartitionKernel$Partition" ({ cls := "PartitionKernel$Partition", name := "tell", desc := "(I)I" } : Jvm.MethodName) ({ cls := "PartitionKernel$Partition", name := "tell", desc := "(I)I" } : Jvm.MethodName)) ∈ mq_ws pg_Z mi := mq_gw 347 mi (by decide +kernel) (by decide +kernel)
theorem gw_348 (mi : Nat) : (Jvm.Cond.code ({ cls := "PartitionKernel$Partition", name := "tell", desc := "(I)I" } : Jvm.MethodName) prog_7_method_5_code (2 : Nat) (Option.some Jvm.ClassFile.FieldType.int)) ∈ mq_ws pg_Z mi := mq_gw 348 mi (by decide +kernel) (by decide +kernel)
theorem gw_349 (mi : Nat) : (Jvm.Cond.methodLink "PartitionKernel$Partition" (58 : Nat) ({ cls := "PartitionKernel$Partition", name := "firstReadyNumber", desc := "()I" } : Jvm.MethodName)) ∈ mq_ws pg_Z mi := mq_gw 349 mi (by decide +kernel) (by decide +kernel)
theorem gw_351 (mi : Nat) : (Jvm.Cond.instanceMethod ({ cls := "PartitionKernel$Partition", name := "firstReadyNumber", desc := "()I" } : Jvm.MethodName)) ∈ mq_ws pg_Z mi := mq_gw 351 mi (by decide +kernel) (by decide +kernel)
theorem gw_352 (mi : Nat) : (Jvm.Cond.code ({ cls := "PartitionKernel$Partition", name := "firstReadyNumber", desc := "()I" } : Jvm.MethodName) prog_7_method_17_code (2 : Nat) (Option.some Jvm.ClassFile.FieldType.int)) ∈ mq_ws pg_Z mi := mq_gw 352 mi (by decide +kernel) (by decide +kernel)
theorem gw_353 (mi : Nat) : (Jvm.Cond.methodLink "PartitionKernel$Partition" (112 : Nat) ({ cls := "PartitionKernel$Partition", name := "first", desc := "(II)LPartitionKernel$Proc;" } : Jvm.MethodName)) ∈ mq_ws pg_Z mi := mq_gw 353 mi (by decide +kernel) (by decide +kernel)
theorem gw_354 (mi : Nat) : (Jvm.Cond.instanceMethod ({ cls := "PartitionKernel$Partition", name := "first", desc := "(II)LPartitionKernel$Proc;" } : Jvm.MethodName)) ∈ mq_ws pg_Z mi := mq_gw 354 mi (by decide +kernel) (by decide +kernel)
theorem gw_355 (mi : Nat) : (Jvm.Cond.selects "PartitionKernel$Partition" ({ cls := "PartitionKernel$Partition", name := "first", desc := "(II)LPartitionKernel$Proc;" } : Jvm.MethodName) ({ cls := "PartitionKernel$Partition", name := "first", desc := "(II)LPartitionKernel$Proc;" } : Jvm.MethodName)) ∈ mq_ws pg_Z mi := mq_gw 355 mi (by decide +kernel) (by decide +kernel)
theorem gw_356 (mi : Nat) : (Jvm.Cond.code ({ cls := "PartitionKernel$Partition", name := "first", desc := "(II)LPartitionKernel$Proc;" } : Jvm.MethodName) prog_7_method_10_code (6 : Nat) (Option.some (Jvm.ClassFile.FieldType.object "PartitionKernel$Proc"))) ∈ mq_ws pg_Z mi := mq_gw 356 mi (by decide +kernel) (by decide +kernel)
theorem gw_357 (mi : Nat) : (Jvm.Cond.methodLink "PartitionKernel$Partition" (96 : Nat) ({ cls := "PartitionKernel$Proc", name := "leads", desc := "(LPartitionKernel$Proc;)Z" } : Jvm.MethodName)) ∈ mq_ws pg_Z mi := mq_gw 357 mi (by decide +kernel) (by decide +kernel)
theorem gw_358 (mi : Nat) : (Jvm.Cond.instanceMethod ({ cls := "PartitionKernel$Proc", name := "leads", desc := "(LPartitionKernel$Proc;)Z" } : Jvm.MethodName)) ∈ mq_ws pg_Z mi := mq_gw 358 mi (by decide +kernel) (by decide +kernel)
theorem gw_359 (mi : Nat) : (Jvm.Cond.selects "PartitionKernel$Proc" ({ cls := "PartitionKernel$Proc", name := "leads", desc := "(LPartitionKernel$Proc;)Z" } : Jvm.MethodName) ({ cls := "PartitionKernel$Proc", name := "leads", desc := "(LPartitionKernel$Proc;)Z" } : Jvm.MethodName)) ∈ mq_ws pg_Z mi := mq_gw 359 mi (by decide +kernel) (by decide +kernel)
theorem gw_360 (mi : Nat) : (Jvm.Cond.code ({ cls := "PartitionKernel$Proc", name := "leads", desc := "(LPartitionKernel$Proc;)Z" } : Jvm.MethodName) prog_8_method_7_code (2 : Nat) (Option.some Jvm.ClassFile.FieldType.boolean)) ∈ mq_ws pg_Z mi := mq_gw 360 mi (by decide +kernel) (by decide +kernel)
theorem gw_361 (mi : Nat) : (Jvm.Cond.methodLink "PartitionKernel$Partition" (65 : Nat) ({ cls := "PartitionKernel$Partition", name := "isSemaphore", desc := "(I)Z" } : Jvm.MethodName)) ∈ mq_ws pg_Z mi := mq_gw 361 mi (by decide +kernel) (by decide +kernel)
theorem gw_362 (mi : Nat) : (Jvm.Cond.static ({ cls := "PartitionKernel$Partition", name := "isSemaphore", desc := "(I)Z" } : Jvm.MethodName)) ∈ mq_ws pg_Z mi := mq_gw 362 mi (by decide +kernel) (by decide +kernel)
theorem gw_363 (mi : Nat) : (Jvm.Cond.code ({ cls := "PartitionKernel$Partition", name := "isSemaphore", desc := "(I)Z" } : Jvm.MethodName) prog_7_method_18_code (1 : Nat) (Option.some Jvm.ClassFile.FieldType.boolean)) ∈ mq_ws pg_Z mi := mq_gw 363 mi (by decide +kernel) (by decide +kernel)
theorem gw_368 (mi : Nat) : (Jvm.Cond.methodLink "PartitionKernel" (171 : Nat) ({ cls := "PartitionKernel", name := "channelAt", desc := "(I)LPartitionKernel$Channel;" } : Jvm.MethodName)) ∈ mq_ws pg_Z mi := mq_gw 368 mi (by decide +kernel) (by decide +kernel)
theorem gw_370 (mi : Nat) : (Jvm.Cond.instanceMethod ({ cls := "PartitionKernel", name := "channelAt", desc := "(I)LPartitionKernel$Channel;" } : Jvm.MethodName)) ∈ mq_ws pg_Z mi := mq_gw 370 mi (by decide +kernel) (by decide +kernel)
theorem gw_371 (mi : Nat) : (Jvm.Cond.code ({ cls := "PartitionKernel", name := "channelAt", desc := "(I)LPartitionKernel$Channel;" } : Jvm.MethodName) prog_1_method_22_code (2 : Nat) (Option.some (Jvm.ClassFile.FieldType.object "PartitionKernel$Channel"))) ∈ mq_ws pg_Z mi := mq_gw 371 mi (by decide +kernel) (by decide +kernel)
theorem gw_372 (mi : Nat) : (Jvm.Cond.methodLink "PartitionKernel" (175 : Nat) ({ cls := "PartitionKernel$Channel", name := "tell", desc := "(I)I" } : Jvm.MethodName)) ∈ mq_ws pg_Z mi := mq_gw 372 mi (by decide +kernel) (by decide +kernel)
theorem gw_373 (mi : Nat) : (Jvm.Cond.instanceMethod ({ cls := "PartitionKernel$Channel", name := "tell", desc := "(I)I" } : Jvm.MethodName)) ∈ mq_ws pg_Z mi := mq_gw 373 mi (by decide +kernel) (by decide +kernel)
theorem gw_374 (mi : Nat) : (Jvm.Cond.selects "PartitionKernel$Channel" ({ cls := "PartitionKernel$Channel", name := "tell", desc := "(I)I" } : Jvm.MethodName) ({ cls := "PartitionKernel$Channel", name := "tell", desc := "(I)I" } : Jvm.MethodName)) ∈ mq_ws pg_Z mi := mq_gw 374 mi (by decide +kernel) (by decide +kernel)
theorem gw_375 (mi : Nat) : (Jvm.Cond.code ({ cls := "PartitionKernel$Channel", name := "tell", desc := "(I)I" } : Jvm.MethodName) prog_2_method_6_code (2 : Nat) (Option.some Jvm.ClassFile.FieldType.int)) ∈ mq_ws pg_Z mi := mq_gw 375 mi (by decide +kernel) (by decide +kernel)
theorem gw_380 (mi : Nat) : (Jvm.Cond.methodLink "PartitionKernel" (176 : Nat) ({ cls := "PartitionKernel$Channel", name := "wordAt", desc := "(I)I" } : Jvm.MethodName)) ∈ mq_ws pg_Z mi := mq_gw 380 mi (by decide +kernel) (by decide +kernel)
theorem gw_381 (mi : Nat) : (Jvm.Cond.instanceMethod ({ cls := "PartitionKernel$Channel", name := "wordAt", desc := "(I)I" } : Jvm.MethodName)) ∈ mq_ws pg_Z mi := mq_gw 381 mi (by decide +kernel) (by decide +kernel)
theorem gw_382 (mi : Nat) : (Jvm.Cond.selects "PartitionKernel$Channel" ({ cls := "PartitionKernel$Channel", name := "wordAt", desc := "(I)I" } : Jvm.MethodName) ({ cls := "PartitionKernel$Channel", name := "wordAt", desc := "(I)I" } : Jvm.MethodName)) ∈ mq_ws pg_Z mi := mq_gw 382 mi (by decide +kernel) (by decide +kernel)
theorem gw_383 (mi : Nat) : (Jvm.Cond.code ({ cls := "PartitionKernel$Channel", name := "wordAt", desc := "(I)I" } : Jvm.MethodName) prog_2_method_5_code (2 : Nat) (Option.some Jvm.ClassFile.FieldType.int)) ∈ mq_ws pg_Z mi := mq_gw 383 mi (by decide +kernel) (by decide +kernel)
theorem gw_384 (mi : Nat) : (Jvm.Cond.methodLink "PartitionKernel$Channel" (35 : Nat) ({ cls := "PartitionKernel$Channel", name := "placeOf", desc := "(I)I" } : Jvm.MethodName)) ∈ mq_ws pg_Z mi := mq_gw 384 mi (by decide +kernel) (by decide +kernel)
theorem gw_386 (mi : Nat) : (Jvm.Cond.instanceMethod ({ cls := "PartitionKernel$Channel", name := "placeOf", desc := "(I)I" } : Jvm.MethodName)) ∈ mq_ws pg_Z mi := mq_gw 386 mi (by decide +kernel) (by decide +kernel)
theorem gw_387 (mi : Nat) : (Jvm.Cond.code ({ cls := "PartitionKernel$Channel", name := "placeOf", desc := "(I)I" } : Jvm.MethodName) prog_2_method_7_code (2 : Nat) (Option.some Jvm.ClassFile.FieldType.int)) ∈ mq_ws pg_Z mi := mq_gw 387 mi (by decide +kernel) (by decide +kernel)
theorem gw_392 (mi : Nat) : (Jvm.Cond.methodLink "PartitionKernel" (179 : Nat) ({ cls := "PartitionKernel$ErrorLog", name := "tell", desc := "(II)I" } : Jvm.MethodName)) ∈ mq_ws pg_Z mi := mq_gw 392 mi (by decide +kernel) (by decide +kernel)
theorem gw_393 (mi : Nat) : (Jvm.Cond.instanceMethod ({ cls := "PartitionKernel$ErrorLog", name := "tell", desc := "(II)I" } : Jvm.MethodName)) ∈ mq_ws pg_Z mi := mq_gw 393 mi (by decide +kernel) (by decide +kernel)
theorem gw_394 (mi : Nat) : (Jvm.Cond.selects "PartitionKernel$ErrorLog" ({ cls := "PartitionKernel$ErrorLog", name := "tell", desc := "(II)I" } : Jvm.MethodName) ({ cls := "PartitionKernel$ErrorLog", name := "tell", desc := "(II)I" } : Jvm.MethodName)) ∈ mq_ws pg_Z mi := mq_gw 394 mi (by decide +kernel) (by decide +kernel)
theorem gw_395 (mi : Nat) : (Jvm.Cond.code ({ cls := "PartitionKernel$ErrorLog", name := "tell", desc := "(II)I" } : Jvm.MethodName) prog_3_method_3_code (4 : Nat) (Option.some Jvm.ClassFile.FieldType.int)) ∈ mq_ws pg_Z mi := mq_gw 395 mi (by decide +kernel) (by decide +kernel)
theorem gw_400 (mi : Nat) : (Jvm.Cond.methodLink "PartitionKernel" (140 : Nat) ({ cls := "PartitionKernel$Frame", name := "owner", desc := "()I" } : Jvm.MethodName)) ∈ mq_ws pg_Z mi := mq_gw 400 mi (by decide +kernel) (by decide +kernel)
theorem gw_401 (mi : Nat) : (Jvm.Cond.instanceMethod ({ cls := "PartitionKernel$Frame", name := "owner", desc := "()I" } : Jvm.MethodName)) ∈ mq_ws pg_Z mi := mq_gw 401 mi (by decide +kernel) (by decide +kernel)
theorem gw_402 (mi : Nat) : (Jvm.Cond.selects "PartitionKernel$Frame" ({ cls := "PartitionKernel$Frame", name := "owner", desc := "()I" } : Jvm.MethodName) ({ cls := "PartitionKernel$Frame", name := "owner", desc := "()I" } : Jvm.MethodName)) ∈ mq_ws pg_Z mi := mq_gw 402 mi (by decide +kernel) (by decide +kernel)
theorem gw_403 (mi : Nat) : (Jvm.Cond.code ({ cls := "PartitionKernel$Frame", name := "owner", desc := "()I" } : Jvm.MethodName) prog_4_method_3_code (1 : Nat) (Option.some Jvm.ClassFile.FieldType.int)) ∈ mq_ws pg_Z mi := mq_gw 403 mi (by decide +kernel) (by decide +kernel)
theorem gw_410 (mi : Nat) : (Jvm.Cond.methodLink "PartitionKernelLaw" (7 : Nat) ({ cls := "PartitionKernel", name := "window", desc := "(II)V" } : Jvm.MethodName)) ∈ mq_ws pg_Z mi := mq_gw 410 mi (by decide +kernel) (by decide +kernel)
theorem gw_411 (mi : Nat) : (Jvm.Cond.instanceMethod ({ cls := "PartitionKernel", name := "window", desc := "(II)V" } : Jvm.MethodName)) ∈ mq_ws pg_Z mi := mq_gw 411 mi (by decide +kernel) (by decide +kernel)
theorem gw_412 (mi : Nat) : (Jvm.Cond.selects "PartitionKernel" ({ cls := "PartitionKernel", name := "window", desc := "(II)V" } : Jvm.MethodName) ({ cls := "PartitionKernel", name := "window", desc := "(II)V" } : Jvm.MethodName)) ∈ mq_ws pg_Z mi := mq_gw 412 mi (by decide +kernel) (by decide +kernel)
theorem gw_413 (mi : Nat) : (Jvm.Cond.code ({ cls := "PartitionKernel", name := "window", desc := "(II)V" } : Jvm.MethodName) prog_1_method_2_code (3 : Nat) (Option.none : Option Jvm.ClassFile.FieldType)) ∈ mq_ws pg_Z mi := mq_gw 413 mi (by decide +kernel) (by decide +kernel)
theorem gw_481 (mi : Nat) : (Jvm.Cond.arrayClass Jvm.ClassFile.FieldType.byte) ∈ mq_ws pg_Z mi := mq_gw 481 mi (by decide +kernel) (by decide +kernel)
theorem gw_498 (mi : Nat) : (Jvm.Cond.methodLink "PartitionKernel" (59 : Nat) ({ cls := "PartitionKernel$Frame", name := "add", desc := "(II)Z" } : Jvm.MethodName)) ∈ mq_ws pg_Z mi := mq_gw 498 mi (by decide +kernel) (by decide +kernel)
theorem gw_499 (mi : Nat) : (Jvm.Cond.instanceMethod ({ cls := "PartitionKernel$Frame", name := "add", desc := "(II)Z" } : Jvm.MethodName)) ∈ mq_ws pg_Z mi := mq_gw 499 mi (by decide +kernel) (by decide +kernel)
theorem gw_500 (mi : Nat) : (Jvm.Cond.selects "PartitionKernel$Frame" ({ cls := "PartitionKernel$Frame", name := "add", desc := "(II)Z" } : Jvm.MethodName) ({ cls := "PartitionKernel$Frame", name := "add", desc := "(II)Z" } : Jvm.MethodName)) ∈ mq_ws pg_Z mi := mq_gw 500 mi (by decide +kernel) (by decide +kernel)
theorem gw_501 (mi : Nat) : (Jvm.Cond.code ({ cls := "PartitionKernel$Frame", name := "add", desc := "(II)Z" } : Jvm.MethodName) prog_4_method_2_code (3 : Nat) (Option.some Jvm.ClassFile.FieldType.boolean)) ∈ mq_ws pg_Z mi := mq_gw 501 mi (by decide +kernel) (by decide +kernel)
theorem gw_521 (mi : Nat) : (Jvm.Cond.methodLink "PartitionKernelLaw" (19 : Nat) ({ cls := "PartitionKernel", name := "process", desc := "(IIIII)I" } : Jvm.MethodName)) ∈ mq_ws pg_Z mi := mq_gw 521 mi (by decide +kernel) (by decide +kernel)
theorem gw_522 (mi : Nat) : (Jvm.Cond.instanceMethod ({ cls := "PartitionKernel", name := "process", desc := "(IIIII)I" } : Jvm.MethodName)) ∈ mq_ws pg_Z mi := mq_gw 522 mi (by decide +kernel) (by decide +kernel)
theorem gw_523 (mi : Nat) : (Jvm.Cond.selects "PartitionKernel" ({ cls := "PartitionKernel", name := "process", desc := "(IIIII)I" } : Jvm.MethodName) ({ cls := "PartitionKernel", name := "process", desc := "(IIIII)I" } : Jvm.MethodName)) ∈ mq_ws pg_Z mi := mq_gw 523 mi (by decide +kernel) (by decide +kernel)
theorem gw_524 (mi : Nat) : (Jvm.Cond.code ({ cls := "PartitionKernel", name := "process", desc := "(IIIII)I" } : Jvm.MethodName) prog_1_method_3_code (8 : Nat) (Option.some Jvm.ClassFile.FieldType.int)) ∈ mq_ws pg_Z mi := mq_gw 524 mi (by decide +kernel) (by decide +kernel)
theorem gw_525 (mi : Nat) : (Jvm.Cond.methodLink "PartitionKernel" (72 : Nat) ({ cls := "PartitionKernel", name := "isPriority", desc := "(I)Z" } : Jvm.MethodName)) ∈ mq_ws pg_Z mi := mq_gw 525 mi (by decide +kernel) (by decide +kernel)
theorem gw_526 (mi : Nat) : (Jvm.Cond.static ({ cls := "PartitionKernel", name := "isPriority", desc := "(I)Z" } : Jvm.MethodName)) ∈ mq_ws pg_Z mi := mq_gw 526 mi (by decide +kernel) (by decide +kernel)
theorem gw_527 (mi : Nat) : (Jvm.Cond.code ({ cls := "PartitionKernel", name := "isPriority", desc := "(I)Z" } : Jvm.MethodName) prog_1_method_18_code (1 : Nat) (Option.some Jvm.ClassFile.FieldType.boolean)) ∈ mq_ws pg_Z mi := mq_gw 527 mi (by decide +kernel) (by decide +kernel)
theorem gw_528 (mi : Nat) : (Jvm.Cond.methodLink "PartitionKernel" (75 : Nat) ({ cls := "PartitionKernel", name := "isSpan", desc := "(I)Z" } : Jvm.MethodName)) ∈ mq_ws pg_Z mi := mq_gw 528 mi (by decide +kernel) (by decide +kernel)
theorem gw_529 (mi : Nat) : (Jvm.Cond.static ({ cls := "PartitionKernel", name := "isSpan", desc := "(I)Z" } : Jvm.MethodName)) ∈ mq_ws pg_Z mi := mq_gw 529 mi (by decide +kernel) (by decide +kernel)
theorem gw_530 (mi : Nat) : (Jvm.Cond.code ({ cls := "PartitionKernel", name := "isSpan", desc := "(I)Z" } : Jvm.MethodName) prog_1_method_19_code (1 : Nat) (Option.some Jvm.ClassFile.FieldType.boolean)) ∈ mq_ws pg_Z mi := mq_gw 530 mi (by decide +kernel) (by decide +kernel)
theorem gw_531 (mi : Nat) : (Jvm.Cond.constant "PartitionKernel" (185 : Nat) (100000 : Int32)) ∈ mq_ws pg_Z mi := mq_gw 531 mi (by decide +kernel) (by decide +kernel)
theorem gw_533 (mi : Nat) : (Jvm.Cond.methodLink "PartitionKernel" (80 : Nat) ({ cls := "PartitionKernel$Partition", name := "add", desc := "(IIII)I" } : Jvm.MethodName)) ∈ mq_ws pg_Z mi := mq_gw 533 mi (by decide +kernel) (by decide +kernel)
theorem gw_534 (mi : Nat) : (Jvm.Cond.instanceMethod ({ cls := "PartitionKernel$Partition", name := "add", desc := "(IIII)I" } : Jvm.MethodName)) ∈ mq_ws pg_Z mi := mq_gw 534 mi (by decide +kernel) (by decide +kernel)
theorem gw_535 (mi : Nat) : (Jvm.Cond.selects "PartitionKernel$Partition" ({ cls := "PartitionKernel$Partition", name := "add", desc := "(IIII)I" } : Jvm.MethodName) ({ cls := "PartitionKernel$Partition", name := "add", desc := "(IIII)I" } : Jvm.MethodName)) ∈ mq_ws pg_Z mi := mq_gw 535 mi (by decide +kernel) (by decide +kernel)
theorem gw_536 (mi : Nat) : (Jvm.Cond.code ({ cls := "PartitionKernel$Partition", name := "add", desc := "(IIII)I" } : Jvm.MethodName) prog_7_method_2_code (6 : Nat) (Option.some Jvm.ClassFile.FieldType.int)) ∈ mq_ws pg_Z mi := mq_gw 536 mi (by decide +kernel) (by decide +kernel)
theorem gw_541 (mi : Nat) : (Jvm.Cond.methodLink "PartitionKernelLaw" (23 : Nat) ({ cls := "PartitionKernel", name := "channel", desc := "(ZIII)I" } : Jvm.MethodName)) ∈ mq_ws pg_Z mi := mq_gw 541 mi (by decide +kernel) (by decide +kernel)
theorem gw_542 (mi : Nat) : (Jvm.Cond.instanceMethod ({ cls := "PartitionKernel", name := "channel", desc := "(ZIII)I" } : Jvm.MethodName)) ∈ mq_ws pg_Z mi := mq_gw 542 mi (by decide +kernel) (by decide +kernel)
theorem gw_543 (mi : Nat) : (Jvm.Cond.selects "PartitionKernel" ({ cls := "PartitionKernel", name := "channel", desc := "(ZIII)I" } : Jvm.MethodName) ({ cls := "PartitionKernel", name := "channel", desc := "(ZIII)I" } : Jvm.MethodName)) ∈ mq_ws pg_Z mi := mq_gw 543 mi (by decide +kernel) (by decide +kernel)
theorem gw_544 (mi : Nat) : (Jvm.Cond.code ({ cls := "PartitionKernel", name := "channel", desc := "(ZIII)I" } : Jvm.MethodName) prog_1_method_4_code (5 : Nat) (Option.some Jvm.ClassFile.FieldType.int)) ∈ mq_ws pg_Z mi := mq_gw 544 mi (by decide +kernel) (by decide +kernel)
theorem gw_548 (mi : Nat) : (Jvm.Cond.methodLink "PartitionKernel" (95 : Nat) ({ cls := "PartitionKernel$Channel", name := "open", desc := "(ZIII)V" } : Jvm.MethodName)) ∈ mq_ws pg_Z mi := mq_gw 548 mi (by decide +kernel) (by decide +kernel)
theorem gw_549 (mi : Nat) : (Jvm.Cond.instanceMethod ({ cls := "PartitionKernel$Channel", name := "open", desc := "(ZIII)V" } : Jvm.MethodName)) ∈ mq_ws pg_Z mi := mq_gw 549 mi (by decide +kernel) (by decide +kernel)
theorem gw_550 (mi : Nat) : (Jvm.Cond.selects "PartitionKernel$Channel" ({ cls := "PartitionKernel$Channel", name := "open", desc := "(ZIII)V" } : Jvm.MethodName) ({ cls := "PartitionKernel$Channel", name := "open", desc := "(ZIII)V" } : Jvm.MethodName)) ∈ mq_ws pg_Z mi := mq_gw 550 mi (by decide +kernel) (by decide +kernel)
theorem gw_551 (mi : Nat) : (Jvm.Cond.code ({ cls := "PartitionKernel$Channel", name := "open", desc := "(ZIII)V" } : Jvm.MethodName) prog_2_method_2_code (5 : Nat) (Option.none : Option Jvm.ClassFile.FieldType)) ∈ mq_ws pg_Z mi := mq_gw 551 mi (by decide +kernel) (by decide +kernel)
theorem gw_555 (mi : Nat) : (Jvm.Cond.methodLink "PartitionKernelLaw" (27 : Nat) ({ cls := "PartitionKernel", name := "action", desc := "(III)V" } : Jvm.MethodName)) ∈ mq_ws pg_Z mi := mq_gw 555 mi (by decide +kernel) (by decide +kernel)
theorem gw_556 (mi : Nat) : (Jvm.Cond.instanceMethod ({ cls := "PartitionKernel", name := "action", desc := "(III)V" } : Jvm.MethodName)) ∈ mq_ws pg_Z mi := mq_gw 556 mi (by decide +kernel) (by decide +kernel)
theorem gw_557 (mi : Nat) : (Jvm.Cond.selects "PartitionKernel" ({ cls := "PartitionKernel", name := "action", desc := "(III)V" } : Jvm.MethodName) ({ cls := "PartitionKernel", name := "action", desc := "(III)V" } : Jvm.MethodName)) ∈ mq_ws pg_Z mi := mq_gw 557 mi (by decide +kernel) (by decide +kernel)
theorem gw_558 (mi : Nat) : (Jvm.Cond.code ({ cls := "PartitionKernel", name := "action", desc := "(III)V" } : Jvm.MethodName) prog_1_method_5_code (5 : Nat) (Option.none : Option Jvm.ClassFile.FieldType)) ∈ mq_ws pg_Z mi := mq_gw 558 mi (by decide +kernel) (by decide +kernel)
theorem gw_564 (mi : Nat) : (Jvm.Cond.methodLink "PartitionKernelLaw" (31 : Nat) ({ cls := "PartitionKernel", name := "poke", desc := "(III)V" } : Jvm.MethodName)) ∈ mq_ws pg_Z mi := mq_gw 564 mi (by decide +kernel) (by decide +kernel)
theorem gw_565 (mi : Nat) : (Jvm.Cond.instanceMethod ({ cls := "PartitionKernel", name := "poke", desc := "(III)V" } : Jvm.MethodName)) ∈ mq_ws pg_Z mi := mq_gw 565 mi (by decide +kernel) (by decide +kernel)
theorem gw_566 (mi : Nat) : (Jvm.Cond.selects "PartitionKernel" ({ cls := "PartitionKernel", name := "poke", desc := "(III)V" } : Jvm.MethodName) ({ cls := "PartitionKernel", name := "poke", desc := "(III)V" } : Jvm.MethodName)) ∈ mq_ws pg_Z mi := mq_gw 566 mi (by decide +kernel) (by decide +kernel)
theorem gw_567 (mi : Nat) : (Jvm.Cond.code ({ cls := "PartitionKernel", name := "poke", desc := "(III)V" } : Jvm.MethodName) prog_1_method_6_code (5 : Nat) (Option.none : Option Jvm.ClassFile.FieldType)) ∈ mq_ws pg_Z mi := mq_gw 567 mi (by decide +kernel) (by decide +kernel)
theorem gw_568 (mi : Nat) : (Jvm.Cond.methodLink "PartitionKernel" (107 : Nat) ({ cls := "PartitionKernel$Memory", name := "holds", desc := "(II)Z" } : Jvm.MethodName)) ∈ mq_ws pg_Z mi := mq_gw 568 mi (by decide +kernel) (by decide +kernel)
theorem gw_570 (mi : Nat) : (Jvm.Cond.methodLink "PartitionKernel" (118 : Nat) ({ cls := "PartitionKernel$Memory", name := "writeWord", desc := "(II)V" } : Jvm.MethodName)) ∈ mq_ws pg_Z mi := mq_gw 570 mi (by decide +kernel) (by decide +kernel)
theorem gw_571 (mi : Nat) : (Jvm.Cond.instanceMethod ({ cls := "PartitionKernel$Memory", name := "writeWord", desc := "(II)V" } : Jvm.MethodName)) ∈ mq_ws pg_Z mi := mq_gw 571 mi (by decide +kernel) (by decide +kernel)
theorem gw_572 (mi : Nat) : (Jvm.Cond.selects "PartitionKernel$Memory" ({ cls := "PartitionKernel$Memory", name := "writeWord", desc := "(II)V" } : Jvm.MethodName) ({ cls := "PartitionKernel$Memory", name := "writeWord", desc := "(II)V" } : Jvm.MethodName)) ∈ mq_ws pg_Z mi := mq_gw 572 mi (by decide +kernel) (by decide +kernel)
theorem gw_573 (mi : Nat) : (Jvm.Cond.code ({ cls := "PartitionKernel$Memory", name := "writeWord", desc := "(II)V" } : Jvm.MethodName) prog_6_method_4_code (3 : Nat) (Option.none : Option Jvm.ClassFile.FieldType)) ∈ mq_ws pg_Z mi := mq_gw 573 mi (by decide +kernel) (by decide +kernel)
theorem gw_577 (mi : Nat) : (Jvm.Cond.methodLink "PartitionKernelLaw" (34 : Nat) ({ cls := "PartitionKernel", name := "begin", desc := "()V" } : Jvm.MethodName)) ∈ mq_ws pg_Z mi := mq_gw 577 mi (by decide +kernel) (by decide +kernel)
theorem gw_578 (mi : Nat) : (Jvm.Cond.instanceMethod ({ cls := "PartitionKernel", name := "begin", desc := "()V" } : Jvm.MethodName)) ∈ mq_ws pg_Z mi := mq_gw 578 mi (by decide +kernel) (by decide +kernel)
theorem gw_579 (mi : Nat) : (Jvm.Cond.selects "PartitionKernel" ({ cls := "PartitionKernel", name := "begin", desc := "()V" } : Jvm.MethodName) ({ cls := "PartitionKernel", name := "begin", desc := "()V" } : Jvm.MethodName)) ∈ mq_ws pg_Z mi := mq_gw 579 mi (by decide +kernel) (by decide +kernel)
theorem gw_580 (mi : Nat) : (Jvm.Cond.code ({ cls := "PartitionKernel", name := "begin", desc := "()V" } : Jvm.MethodName) prog_1_method_7_code (2 : Nat) (Option.none : Option Jvm.ClassFile.FieldType)) ∈ mq_ws pg_Z mi := mq_gw 580 mi (by decide +kernel) (by decide +kernel)
theorem gw_582 (mi : Nat) : (Jvm.Cond.methodLink "PartitionKernel" (130 : Nat) ({ cls := "PartitionKernel$Partition", name := "startAll", desc := "(I)V" } : Jvm.MethodName)) ∈ mq_ws pg_Z mi := mq_gw 582 mi (by decide +kernel) (by decide +kernel)
theorem gw_583 (mi : Nat) : (Jvm.Cond.instanceMethod ({ cls := "PartitionKernel$Partition", name := "startAll", desc := "(I)V" } : Jvm.MethodName)) ∈ mq_ws pg_Z mi := mq_gw 583 mi (by decide +kernel) (by decide +kernel)
theorem gw_584 (mi : Nat) : (Jvm.Cond.selects "PartitionKernel$Partition" ({ cls := "PartitionKernel$Partition", name := "startAll", desc := "(I)V" } : Jvm.MethodName) ({ cls := "PartitionKernel$Partition", name := "startAll", desc := "(I)V" } : Jvm.MethodName)) ∈ mq_ws pg_Z mi := mq_gw 584 mi (by decide +kernel) (by decide +kernel)
theorem gw_585 (mi : Nat) : (Jvm.Cond.code ({ cls := "PartitionKernel$Partition", name := "startAll", desc := "(I)V" } : Jvm.MethodName) prog_7_method_7_code (3 : Nat) (Option.none : Option Jvm.ClassFile.FieldType)) ∈ mq_ws pg_Z mi := mq_gw 585 mi (by decide +kernel) (by decide +kernel)
theorem gw_586 (mi : Nat) : (Jvm.Cond.methodLink "PartitionKernel$Partition" (79 : Nat) ({ cls := "PartitionKernel$Partition", name := "start", desc := "(LPartitionKernel$Proc;I)V" } : Jvm.MethodName)) ∈ mq_ws pg_Z mi := mq_gw 586 mi (by decide +kernel) (by decide +kernel)
theorem gw_587 (mi : Nat) : (Jvm.Cond.instanceMethod ({ cls := "PartitionKernel$Partition", name := "start", desc := "(LPartitionKernel$Proc;I)V" } : Jvm.MethodName)) ∈ mq_ws pg_Z mi := mq_gw 587 mi (by decide +kernel) (by decide +kernel)
theorem gw_588 (mi : Nat) : (Jvm.Cond.selects "PartitionKernel$Partition" ({ cls := "PartitionKernel$Partition", name := "start", desc := "(LPartitionKernel$Proc;I)V" } : Jvm.MethodName) ({ cls := "PartitionKernel$Partition", name := "start", desc := "(LPartitionKernel$Proc;I)V" } : Jvm.MethodName)) ∈ mq_ws pg_Z mi := mq_gw 588 mi (by decide +kernel) (by decide +kernel)
theorem gw_589 (mi : Nat) : (Jvm.Cond.code ({ cls := "PartitionKernel$Partition", name := "start", desc := "(LPartitionKernel$Proc;I)V" } : Jvm.MethodName) prog_7_method_6_code (3 : Nat) (Option.none : Option Jvm.ClassFile.FieldType)) ∈ mq_ws pg_Z mi := mq_gw 589 mi (by decide +kernel) (by decide +kernel)
theorem gw_590 (mi : Nat) : (Jvm.Cond.methodLink "PartitionKernel$Partition" (69 : Nat) ({ cls := "PartitionKernel$Proc", name := "reset", desc := "()V" } : Jvm.MethodName)) ∈ mq_ws pg_Z mi := mq_gw 590 mi (by decide +kernel) (by decide +kernel)
theorem gw_591 (mi : Nat) : (Jvm.Cond.instanceMethod ({ cls := "PartitionKernel$Proc", name := "reset", desc := "()V" } : Jvm.MethodName)) ∈ mq_ws pg_Z mi := mq_gw 591 mi (by decide +kernel) (by decide +kernel)
theorem gw_592 (mi : Nat) : (Jvm.Cond.selects "PartitionKernel$Proc" ({ cls := "PartitionKernel$Proc", name := "reset", desc := "()V" } : Jvm.MethodName) ({ cls := "PartitionKernel$Proc", name := "reset", desc := "()V" } : Jvm.MethodName)) ∈ mq_ws pg_Z mi := mq_gw 592 mi (by decide +kernel) (by decide +kernel)
theorem gw_593 (mi : Nat) : (Jvm.Cond.code ({ cls := "PartitionKernel$Proc", name := "reset", desc := "()V" } : Jvm.MethodName) prog_8_method_4_code (2 : Nat) (Option.none : Option Jvm.ClassFile.FieldType)) ∈ mq_ws pg_Z mi := mq_gw 593 mi (by decide +kernel) (by decide +kernel)
theorem gw_594 (mi : Nat) : (Jvm.Cond.methodLink "PartitionKernel$Partition" (72 : Nat) ({ cls := "PartitionKernel$Proc", name := "releaseAt", desc := "(I)V" } : Jvm.MethodName)) ∈ mq_ws pg_Z mi := mq_gw 594 mi (by decide +kernel) (by decide +kernel)
theorem gw_595 (mi : Nat) : (Jvm.Cond.instanceMethod ({ cls := "PartitionKernel$Proc", name := "releaseAt", desc := "(I)V" } : Jvm.MethodName)) ∈ mq_ws pg_Z mi := mq_gw 595 mi (by decide +kernel) (by decide +kernel)
theorem gw_596 (mi : Nat) : (Jvm.Cond.selects "PartitionKernel$Proc" ({ cls := "PartitionKernel$Proc", name := "releaseAt", desc := "(I)V" } : Jvm.MethodName) ({ cls := "PartitionKernel$Proc", name := "releaseAt", desc := "(I)V" } : Jvm.MethodName)) ∈ mq_ws pg_Z mi := mq_gw 596 mi (by decide +kernel) (by decide +kernel)
theorem gw_597 (mi : Nat) : (Jvm.Cond.code ({ cls := "PartitionKernel$Proc", name := "releaseAt", desc := "(I)V" } : Jvm.MethodName) prog_8_method_5_code (2 : Nat) (Option.none : Option Jvm.ClassFile.FieldType)) ∈ mq_ws pg_Z mi := mq_gw 597 mi (by decide +kernel) (by decide +kernel)
theorem gw_598 (mi : Nat) : (Jvm.Cond.methodLink "PartitionKernel$Partition" (75 : Nat) ({ cls := "PartitionKernel$Partition", name := "enter", desc := "(LPartitionKernel$Proc;III)V" } : Jvm.MethodName)) ∈ mq_ws pg_Z mi := mq_gw 598 mi (by decide +kernel) (by decide +kernel)
theorem gw_600 (mi : Nat) : (Jvm.Cond.instanceMethod ({ cls := "PartitionKernel$Partition", name := "enter", desc := "(LPartitionKernel$Proc;III)V" } : Jvm.MethodName)) ∈ mq_ws pg_Z mi := mq_gw 600 mi (by decide +kernel) (by decide +kernel)
theorem gw_601 (mi : Nat) : (Jvm.Cond.code ({ cls := "PartitionKernel$Partition", name := "enter", desc := "(LPartitionKernel$Proc;III)V" } : Jvm.MethodName) prog_7_method_20_code (5 : Nat) (Option.none : Option Jvm.ClassFile.FieldType)) ∈ mq_ws pg_Z mi := mq_gw 601 mi (by decide +kernel) (by decide +kernel)
theorem gw_605 (mi : Nat) : (Jvm.Cond.methodLink "PartitionKernelLaw" (37 : Nat) ({ cls := "PartitionKernel", name := "run", desc := "(I)I" } : Jvm.MethodName)) ∈ mq_ws pg_Z mi := mq_gw 605 mi (by decide +kernel) (by decide +kernel)
theorem gw_606 (mi : Nat) : (Jvm.Cond.instanceMethod ({ cls := "PartitionKernel", name := "run", desc := "(I)I" } : Jvm.MethodName)) ∈ mq_ws pg_Z mi := mq_gw 606 mi (by decide +kernel) (by decide +kernel)
theorem gw_607 (mi : Nat) : (Jvm.Cond.selects "PartitionKernel" ({ cls := "PartitionKernel", name := "run", desc := "(I)I" } : Jvm.MethodName) ({ cls := "PartitionKernel", name := "run", desc := "(I)I" } : Jvm.MethodName)) ∈ mq_ws pg_Z mi := mq_gw 607 mi (by decide +kernel) (by decide +kernel)
theorem gw_608 (mi : Nat) : (Jvm.Cond.code ({ cls := "PartitionKernel", name := "run", desc := "(I)I" } : Jvm.MethodName) prog_1_method_8_code (5 : Nat) (Option.some Jvm.ClassFile.FieldType.int)) ∈ mq_ws pg_Z mi := mq_gw 608 mi (by decide +kernel) (by decide +kernel)
theorem gw_611 (mi : Nat) : (Jvm.Cond.methodLink "PartitionKernel" (147 : Nat) ({ cls := "PartitionKernel", name := "tick", desc := "(LPartitionKernel$Partition;)V" } : Jvm.MethodName)) ∈ mq_ws pg_Z mi := mq_gw 611 mi (by decide +kernel) (by decide +kernel)
theorem gw_613 (mi : Nat) : (Jvm.Cond.instanceMethod ({ cls := "PartitionKernel", name := "tick", desc := "(LPartitionKernel$Partition;)V" } : Jvm.MethodName)) ∈ mq_ws pg_Z mi := mq_gw 613 mi (by decide +kernel) (by decide +kernel)
theorem gw_614 (mi : Nat) : (Jvm.Cond.code ({ cls := "PartitionKernel", name := "tick", desc := "(LPartitionKernel$Partition;)V" } : Jvm.MethodName) prog_1_method_23_code (4 : Nat) (Option.none : Option Jvm.ClassFile.FieldType)) ∈ mq_ws pg_Z mi := mq_gw 614 mi (by decide +kernel) (by decide +kernel)
theorem gw_615 (mi : Nat) : (Jvm.Cond.methodLink "PartitionKernel" (190 : Nat) ({ cls := "PartitionKernel$Partition", name := "wake", desc := "(I)V" } : Jvm.MethodName)) ∈ mq_ws pg_Z mi := mq_gw 615 mi (by decide +kernel) (by decide +kernel)
theorem gw_616 (mi : Nat) : (Jvm.Cond.instanceMethod ({ cls := "PartitionKernel$Partition", name := "wake", desc := "(I)V" } : Jvm.MethodName)) ∈ mq_ws pg_Z mi := mq_gw 616 mi (by decide +kernel) (by decide +kernel)
theorem gw_617 (mi : Nat) : (Jvm.Cond.selects "PartitionKernel$Partition" ({ cls := "PartitionKernel$Partition", name := "wake", desc := "(I)V" } : Jvm.MethodName) ({ cls := "PartitionKernel$Partition", name := "wake", desc := "(I)V" } : Jvm.MethodName)) ∈ mq_ws pg_Z mi := mq_gw 617 mi (by decide +kernel) (by decide +kernel)
theorem gw_618 (mi : Nat) : (Jvm.Cond.code ({ cls := "PartitionKernel$Partition", name := "wake", desc := "(I)V" } : Jvm.MethodName) prog_7_method_9_code (4 : Nat) (Option.none : Option Jvm.ClassFile.FieldType)) ∈ mq_ws pg_Z mi := mq_gw 618 mi (by decide +kernel) (by decide +kernel)
theorem gw_619 (mi : Nat) : (Jvm.Cond.methodLink "PartitionKernel$Partition" (86 : Nat) ({ cls := "PartitionKernel$Partition", name := "firstSleeper", desc := "(I)LPartitionKernel$Proc;" } : Jvm.MethodName)) ∈ mq_ws pg_Z mi := mq_gw 619 mi (by decide +kernel) (by decide +kernel)
theorem gw_621 (mi : Nat) : (Jvm.Cond.instanceMethod ({ cls := "PartitionKernel$Partition", name := "firstSleeper", desc := "(I)LPartitionKernel$Proc;" } : Jvm.MethodName)) ∈ mq_ws pg_Z mi := mq_gw 621 mi (by decide +kernel) (by decide +kernel)
theorem gw_622 (mi : Nat) : (Jvm.Cond.code ({ cls := "PartitionKernel$Partition", name := "firstSleeper", desc := "(I)LPartitionKernel$Proc;" } : Jvm.MethodName) prog_7_method_19_code (6 : Nat) (Option.some (Jvm.ClassFile.FieldType.object "PartitionKernel$Proc"))) ∈ mq_ws pg_Z mi := mq_gw 622 mi (by decide +kernel) (by decide +kernel)
theorem gw_623 (mi : Nat) : (Jvm.Cond.methodLink "PartitionKernel" (193 : Nat) ({ cls := "PartitionKernel", name := "dueErrorsEndTick", desc := "(LPartitionKernel$Partition;)Z" } : Jvm.MethodName)) ∈ mq_ws pg_Z mi := mq_gw 623 mi (by decide +kernel) (by decide +kernel)
theorem gw_625 (mi : Nat) : (Jvm.Cond.instanceMethod ({ cls := "PartitionKernel", name := "dueErrorsEndTick", desc := "(LPartitionKernel$Partition;)Z" } : Jvm.MethodName)) ∈ mq_ws pg_Z mi := mq_gw 625 mi (by decide +kernel) (by decide +kernel)
theorem gw_626 (mi : Nat) : (Jvm.Cond.code ({ cls := "PartitionKernel", name := "dueErrorsEndTick", desc := "(LPartitionKernel$Partition;)Z" } : Jvm.MethodName) prog_1_method_24_code (4 : Nat) (Option.some Jvm.ClassFile.FieldType.boolean)) ∈ mq_ws pg_Z mi := mq_gw 626 mi (by decide +kernel) (by decide +kernel)
theorem gw_627 (mi : Nat) : (Jvm.Cond.methodLink "PartitionKernel" (222 : Nat) ({ cls := "PartitionKernel$Proc", name := "isLate", desc := "(I)Z" } : Jvm.MethodName)) ∈ mq_ws pg_Z mi := mq_gw 627 mi (by decide +kernel) (by decide +kernel)
theorem gw_628 (mi : Nat) : (Jvm.Cond.instanceMethod ({ cls := "PartitionKernel$Proc", name := "isLate", desc := "(I)Z" } : Jvm.MethodName)) ∈ mq_ws pg_Z mi := mq_gw 628 mi (by decide +kernel) (by decide +kernel)
theorem gw_629 (mi : Nat) : (Jvm.Cond.selects "PartitionKernel$Proc" ({ cls := "PartitionKernel$Proc", name := "isLate", desc := "(I)Z" } : Jvm.MethodName) ({ cls := "PartitionKernel$Proc", name := "isLate", desc := "(I)Z" } : Jvm.MethodName)) ∈ mq_ws pg_Z mi := mq_gw 629 mi (by decide +kernel) (by decide +kernel)
theorem gw_630 (mi : Nat) : (Jvm.Cond.code ({ cls := "PartitionKernel$Proc", name := "isLate", desc := "(I)Z" } : Jvm.MethodName) prog_8_method_6_code (2 : Nat) (Option.some Jvm.ClassFile.FieldType.boolean)) ∈ mq_ws pg_Z mi := mq_gw 630 mi (by decide +kernel) (by decide +kernel)
theorem gw_631 (mi : Nat) : (Jvm.Cond.methodLink "PartitionKernel" (213 : Nat) ({ cls := "PartitionKernel", name := "fails", desc := "(LPartitionKernel$Partition;LPartitionKernel$Proc;I)Z" } : Jvm.MethodName)) ∈ mq_ws pg_Z mi := mq_gw 631 mi (by decide +kernel) (by decide +kernel)
theorem gw_633 (mi : Nat) : (Jvm.Cond.instanceMethod ({ cls := "PartitionKernel", name := "fails", desc := "(LPartitionKernel$Partition;LPartitionKernel$Proc;I)Z" } : Jvm.MethodName)) ∈ mq_ws pg_Z mi := mq_gw 633 mi (by decide +kernel) (by decide +kernel)
theorem gw_634 (mi : Nat) : (Jvm.Cond.code ({ cls := "PartitionKernel", name := "fails", desc := "(LPartitionKernel$Partition;LPartitionKernel$Proc;I)Z" } : Jvm.MethodName) prog_1_method_25_code (4 : Nat) (Option.some Jvm.ClassFile.FieldType.boolean)) ∈ mq_ws pg_Z mi := mq_gw 634 mi (by decide +kernel) (by decide +kernel)
theorem gw_635 (mi : Nat) : (Jvm.Cond.methodLink "PartitionKernel" (232 : Nat) ({ cls := "PartitionKernel$ErrorLog", name := "note", desc := "(IIII)V" } : Jvm.MethodName)) ∈ mq_ws pg_Z mi := mq_gw 635 mi (by decide +kernel) (by decide +kernel)
theorem gw_636 (mi : Nat) : (Jvm.Cond.instanceMethod ({ cls := "PartitionKernel$ErrorLog", name := "note", desc := "(IIII)V" } : Jvm.MethodName)) ∈ mq_ws pg_Z mi := mq_gw 636 mi (by decide +kernel) (by decide +kernel)
theorem gw_637 (mi : Nat) : (Jvm.Cond.selects "PartitionKernel$ErrorLog" ({ cls := "PartitionKernel$ErrorLog", name := "note", desc := "(IIII)V" } : Jvm.MethodName) ({ cls := "PartitionKernel$ErrorLog", name := "note", desc := "(IIII)V" } : Jvm.MethodName)) ∈ mq_ws pg_Z mi := mq_gw 637 mi (by decide +kernel) (by decide +kernel)
theorem gw_638 (mi : Nat) : (Jvm.Cond.code ({ cls := "PartitionKernel$ErrorLog", name := "note", desc := "(IIII)V" } : Jvm.MethodName) prog_3_method_2_code (5 : Nat) (Option.none : Option Jvm.ClassFile.FieldType)) ∈ mq_ws pg_Z mi := mq_gw 638 mi (by decide +kernel) (by decide +kernel)
theorem gw_639 (mi : Nat) : (Jvm.Cond.methodLink "PartitionKernel$ErrorLog" (31 : Nat) ({ cls := "java/lang/Math", name := "min", desc := "(II)I" } : Jvm.MethodName)) ∈ mq_ws pg_Z mi := mq_gw 639 mi (by decide +kernel) (by decide +kernel)
theorem gw_640 (mi : Nat) : (Jvm.Cond.static ({ cls := "java/lang/Math", name := "min", desc := "(II)I" } : Jvm.MethodName)) ∈ mq_ws pg_Z mi := mq_gw 640 mi (by decide +kernel) (by decide +kernel)
theorem gw_642 (mi : Nat) : (Jvm.Cond.methodLink "PartitionKernel" (236 : Nat) ({ cls := "PartitionKernel$Partition", name := "actionFor", desc := "(I)I" } : Jvm.MethodName)) ∈ mq_ws pg_Z mi := mq_gw 642 mi (by decide +kernel) (by decide +kernel)
theorem gw_643 (mi : Nat) : (Jvm.Cond.instanceMethod ({ cls := "PartitionKernel$Partition", name := "actionFor", desc := "(I)I" } : Jvm.MethodName)) ∈ mq_ws pg_Z mi := mq_gw 643 mi (by decide +kernel) (by decide +kernel)
theorem gw_644 (mi : Nat) : (Jvm.Cond.selects "PartitionKernel$Partition" ({ cls := "PartitionKernel$Partition", name := "actionFor", desc := "(I)I" } : Jvm.MethodName) ({ cls := "PartitionKernel$Partition", name := "actionFor", desc := "(I)I" } : Jvm.MethodName)) ∈ mq_ws pg_Z mi := mq_gw 644 mi (by decide +kernel) (by decide +kernel)
theorem gw_645 (mi : Nat) : (Jvm.Cond.code ({ cls := "PartitionKernel$Partition", name := "actionFor", desc := "(I)I" } : Jvm.MethodName) prog_7_method_4_code (2 : Nat) (Option.some Jvm.ClassFile.FieldType.int)) ∈ mq_ws pg_Z mi := mq_gw 645 mi (by decide +kernel) (by decide +kernel)
theorem gw_646 (mi : Nat) : (Jvm.Cond.methodLink "PartitionKernel" (239 : Nat) ({ cls := "PartitionKernel$Partition", name := "rest", desc := "(LPartitionKernel$Proc;)V" } : Jvm.MethodName)) ∈ mq_ws pg_Z mi := mq_gw 646 mi (by decide +kernel) (by decide +kernel)
theorem gw_647 (mi : Nat) : (Jvm.Cond.instanceMethod ({ cls := "PartitionKernel$Partition", name := "rest", desc := "(LPartitionKernel$Proc;)V" } : Jvm.MethodName)) ∈ mq_ws pg_Z mi := mq_gw 647 mi (by decide +kernel) (by decide +kernel)
theorem gw_648 (mi : Nat) : (Jvm.Cond.selects "PartitionKernel$Partition" ({ cls := "PartitionKernel$Partition", name := "rest", desc := "(LPartitionKernel$Proc;)V" } : Jvm.MethodName) ({ cls := "PartitionKernel$Partition", name := "rest", desc := "(LPartitionKernel$Proc;)V" } : Jvm.MethodName)) ∈ mq_ws pg_Z mi := mq_gw 648 mi (by decide +kernel) (by decide +kernel)
theorem gw_649 (mi : Nat) : (Jvm.Cond.code ({ cls := "PartitionKernel$Partition", name := "rest", desc := "(LPartitionKernel$Proc;)V" } : Jvm.MethodName) prog_7_method_8_code (2 : Nat) (Option.none : Option Jvm.ClassFile.FieldType)) ∈ mq_ws pg_Z mi := mq_gw 649 mi (by decide +kernel) (by decide +kernel)
theorem gw_650 (mi : Nat) : (Jvm.Cond.methodLink "PartitionKernel" (243 : Nat) ({ cls := "PartitionKernel$Partition", name := "start", desc := "(LPartitionKernel$Proc;I)V" } : Jvm.MethodName)) ∈ mq_ws pg_Z mi := mq_gw 650 mi (by decide +kernel) (by decide +kernel)
theorem gw_651 (mi : Nat) : (Jvm.Cond.methodLink "PartitionKernel" (197 : Nat) ({ cls := "PartitionKernel$Partition", name := "first", desc := "(II)LPartitionKernel$Proc;" } : Jvm.MethodName)) ∈ mq_ws pg_Z mi := mq_gw 651 mi (by decide +kernel) (by decide +kernel)
theorem gw_652 (mi : Nat) : (Jvm.Cond.methodLink "PartitionKernel" (203 : Nat) ({ cls := "PartitionKernel$Machine", name := "step", desc := "(LPartitionKernel$Proc;LPartitionKernel$Memory;)I" } : Jvm.MethodName)) ∈ mq_ws pg_Z mi := mq_gw 652 mi (by decide +kernel) (by decide +kernel)
theorem gw_653 (mi : Nat) : (Jvm.Cond.static ({ cls := "PartitionKernel$Machine", name := "step", desc := "(LPartitionKernel$Proc;LPartitionKernel$Memory;)I" } : Jvm.MethodName)) ∈ mq_ws pg_Z mi := mq_gw 653 mi (by decide +kernel) (by decide +kernel)
theorem gw_654 (mi : Nat) : (Jvm.Cond.code ({ cls := "PartitionKernel$Machine", name := "step", desc := "(LPartitionKernel$Proc;LPartitionKernel$Memory;)I" } : Jvm.MethodName) prog_5_method_2_code (3 : Nat) (Option.some Jvm.ClassFile.FieldType.int)) ∈ mq_ws pg_Z mi := mq_gw 654 mi (by decide +kernel) (by decide +kernel)
theorem gw_655 (mi : Nat) : (Jvm.Cond.methodLink "PartitionKernel$Machine" (15 : Nat) ({ cls := "PartitionKernel$Memory", name := "holds", desc := "(II)Z" } : Jvm.MethodName)) ∈ mq_ws pg_Z mi := mq_gw 655 mi (by decide +kernel) (by decide +kernel)
theorem gw_656 (mi : Nat) : (Jvm.Cond.methodLink "PartitionKernel$Machine" (21 : Nat) ({ cls := "PartitionKernel$Memory", name := "readWord", desc := "(I)I" } : Jvm.MethodName)) ∈ mq_ws pg_Z mi := mq_gw 656 mi (by decide +kernel) (by decide +kernel)
theorem gw_657 (mi : Nat) : (Jvm.Cond.methodLink "PartitionKernel$Machine" (25 : Nat) ({ cls := "PartitionKernel$Machine", name := "upper", desc := "(I)I" } : Jvm.MethodName)) ∈ mq_ws pg_Z mi := mq_gw 657 mi (by decide +kernel) (by decide +kernel)
theorem gw_658 (mi : Nat) : (Jvm.Cond.static ({ cls := "PartitionKernel$Machine", name := "upper", desc := "(I)I" } : Jvm.MethodName)) ∈ mq_ws pg_Z mi := mq_gw 658 mi (by decide +kernel) (by decide +kernel)
theorem gw_659 (mi : Nat) : (Jvm.Cond.code ({ cls := "PartitionKernel$Machine", name := "upper", desc := "(I)I" } : Jvm.MethodName) prog_5_method_18_code (1 : Nat) (Option.some Jvm.ClassFile.FieldType.int)) ∈ mq_ws pg_Z mi := mq_gw 659 mi (by decide +kernel) (by decide +kernel)
theorem gw_660 (mi : Nat) : (Jvm.Cond.methodLink "PartitionKernel$Machine" (30 : Nat) ({ cls := "PartitionKernel$Machine", name := "finish", desc := "(LPartitionKernel$Proc;III)I" } : Jvm.MethodName)) ∈ mq_ws pg_Z mi := mq_gw 660 mi (by decide +kernel) (by decide +kernel)
theorem gw_661 (mi : Nat) : (Jvm.Cond.static ({ cls := "PartitionKernel$Machine", name := "finish", desc := "(LPartitionKernel$Proc;III)I" } : Jvm.MethodName)) ∈ mq_ws pg_Z mi := mq_gw 661 mi (by decide +kernel) (by decide +kernel)
theorem gw_662 (mi : Nat) : (Jvm.Cond.code ({ cls := "PartitionKernel$Machine", name := "finish", desc := "(LPartitionKernel$Proc;III)I" } : Jvm.MethodName) prog_5_method_3_code (4 : Nat) (Option.some Jvm.ClassFile.FieldType.int)) ∈ mq_ws pg_Z mi := mq_gw 662 mi (by decide +kernel) (by decide +kernel)
theorem gw_663 (mi : Nat) : (Jvm.Cond.methodLink "PartitionKernel$Machine" (57 : Nat) ({ cls := "PartitionKernel$Proc", name := "set", desc := "(II)V" } : Jvm.MethodName)) ∈ mq_ws pg_Z mi := mq_gw 663 mi (by decide +kernel) (by decide +kernel)
theorem gw_664 (mi : Nat) : (Jvm.Cond.instanceMethod ({ cls := "PartitionKernel$Proc", name := "set", desc := "(II)V" } : Jvm.MethodName)) ∈ mq_ws pg_Z mi := mq_gw 664 mi (by decide +kernel) (by decide +kernel)
theorem gw_665 (mi : Nat) : (Jvm.Cond.selects "PartitionKernel$Proc" ({ cls := "PartitionKernel$Proc", name := "set", desc := "(II)V" } : Jvm.MethodName) ({ cls := "PartitionKernel$Proc", name := "set", desc := "(II)V" } : Jvm.MethodName)) ∈ mq_ws pg_Z mi := mq_gw 665 mi (by decide +kernel) (by decide +kernel)
theorem gw_666 (mi : Nat) : (Jvm.Cond.code ({ cls := "PartitionKernel$Proc", name := "set", desc := "(II)V" } : Jvm.MethodName) prog_8_method_3_code (3 : Nat) (Option.none : Option Jvm.ClassFile.FieldType)) ∈ mq_ws pg_Z mi := mq_gw 666 mi (by decide +kernel) (by decide +kernel)
theorem gw_667 (mi : Nat) : (Jvm.Cond.methodLink "PartitionKernel$Machine" (34 : Nat) ({ cls := "PartitionKernel$Machine", name := "jumpOffset", desc := "(I)I" } : Jvm.MethodName)) ∈ mq_ws pg_Z mi := mq_gw 667 mi (by decide +kernel) (by decide +kernel)
theorem gw_668 (mi : Nat) : (Jvm.Cond.static ({ cls := "PartitionKernel$Machine", name := "jumpOffset", desc := "(I)I" } : Jvm.MethodName)) ∈ mq_ws pg_Z mi := mq_gw 668 mi (by decide +kernel) (by decide +kernel)
theorem gw_669 (mi : Nat) : (Jvm.Cond.code ({ cls := "PartitionKernel$Machine", name := "jumpOffset", desc := "(I)I" } : Jvm.MethodName) prog_5_method_20_code (1 : Nat) (Option.some Jvm.ClassFile.FieldType.int)) ∈ mq_ws pg_Z mi := mq_gw 669 mi (by decide +kernel) (by decide +kernel)
theorem gw_670 (mi : Nat) : (Jvm.Cond.methodLink "PartitionKernel$Machine" (37 : Nat) ({ cls := "PartitionKernel$Machine", name := "jumpToRegister", desc := "(LPartitionKernel$Proc;I)I" } : Jvm.MethodName)) ∈ mq_ws pg_Z mi := mq_gw 670 mi (by decide +kernel) (by decide +kernel)
theorem gw_671 (mi : Nat) : (Jvm.Cond.static ({ cls := "PartitionKernel$Machine", name := "jumpToRegister", desc := "(LPartitionKernel$Proc;I)I" } : Jvm.MethodName)) ∈ mq_ws pg_Z mi := mq_gw 671 mi (by decide +kernel) (by decide +kernel)
theorem gw_672 (mi : Nat) : (Jvm.Cond.code ({ cls := "PartitionKernel$Machine", name := "jumpToRegister", desc := "(LPartitionKernel$Proc;I)I" } : Jvm.MethodName) prog_5_method_4_code (2 : Nat) (Option.some Jvm.ClassFile.FieldType.int)) ∈ mq_ws pg_Z mi := mq_gw 672 mi (by decide +kernel) (by decide +kernel)
theorem gw_673 (mi : Nat) : (Jvm.Cond.methodLink "PartitionKernel$Machine" (61 : Nat) ({ cls := "PartitionKernel$Machine", name := "f3", desc := "(I)I" } : Jvm.MethodName)) ∈ mq_ws pg_Z mi := mq_gw 673 mi (by decide +kernel) (by decide +kernel)
theorem gw_674 (mi : Nat) : (Jvm.Cond.static ({ cls := "PartitionKernel$Machine", name := "f3", desc := "(I)I" } : Jvm.MethodName)) ∈ mq_ws pg_Z mi := mq_gw 674 mi (by decide +kernel) (by decide +kernel)
theorem gw_675 (mi : Nat) : (Jvm.Cond.code ({ cls := "PartitionKernel$Machine", name := "f3", desc := "(I)I" } : Jvm.MethodName) prog_5_method_13_code (1 : Nat) (Option.some Jvm.ClassFile.FieldType.int)) ∈ mq_ws pg_Z mi := mq_gw 675 mi (by decide +kernel) (by decide +kernel)
theorem gw_676 (mi : Nat) : (Jvm.Cond.methodLink "PartitionKernel$Machine" (64 : Nat) ({ cls := "PartitionKernel$Machine", name := "left", desc := "(LPartitionKernel$Proc;I)I" } : Jvm.MethodName)) ∈ mq_ws pg_Z mi := mq_gw 676 mi (by decide +kernel) (by decide +kernel)
theorem gw_677 (mi : Nat) : (Jvm.Cond.static ({ cls := "PartitionKernel$Machine", name := "left", desc := "(LPartitionKernel$Proc;I)I" } : Jvm.MethodName)) ∈ mq_ws pg_Z mi := mq_gw 677 mi (by decide +kernel) (by decide +kernel)
theorem gw_678 (mi : Nat) : (Jvm.Cond.code ({ cls := "PartitionKernel$Machine", name := "left", desc := "(LPartitionKernel$Proc;I)I" } : Jvm.MethodName) prog_5_method_15_code (2 : Nat) (Option.some Jvm.ClassFile.FieldType.int)) ∈ mq_ws pg_Z mi := mq_gw 678 mi (by decide +kernel) (by decide +kernel)
theorem gw_679 (mi : Nat) : (Jvm.Cond.methodLink "PartitionKernel$Machine" (102 : Nat) ({ cls := "PartitionKernel$Proc", name := "get", desc := "(I)I" } : Jvm.MethodName)) ∈ mq_ws pg_Z mi := mq_gw 679 mi (by decide +kernel) (by decide +kernel)
theorem gw_680 (mi : Nat) : (Jvm.Cond.methodLink "PartitionKernel$Machine" (67 : Nat) ({ cls := "PartitionKernel$Machine", name := "immediate", desc := "(I)I" } : Jvm.MethodName)) ∈ mq_ws pg_Z mi := mq_gw 680 mi (by decide +kernel) (by decide +kernel)
theorem gw_681 (mi : Nat) : (Jvm.Cond.static ({ cls := "PartitionKernel$Machine", name := "immediate", desc := "(I)I" } : Jvm.MethodName)) ∈ mq_ws pg_Z mi := mq_gw 681 mi (by decide +kernel) (by decide +kernel)
theorem gw_682 (mi : Nat) : (Jvm.Cond.code ({ cls := "PartitionKernel$Machine", name := "immediate", desc := "(I)I" } : Jvm.MethodName) prog_5_method_17_code (1 : Nat) (Option.some Jvm.ClassFile.FieldType.int)) ∈ mq_ws pg_Z mi := mq_gw 682 mi (by decide +kernel) (by decide +kernel)
theorem gw_683 (mi : Nat) : (Jvm.Cond.methodLink "PartitionKernel$Machine" (41 : Nat) ({ cls := "PartitionKernel$Machine", name := "branch", desc := "(LPartitionKernel$Proc;I)I" } : Jvm.MethodName)) ∈ mq_ws pg_Z mi := mq_gw 683 mi (by decide +kernel) (by decide +kernel)
theorem gw_684 (mi : Nat) : (Jvm.Cond.static ({ cls := "PartitionKernel$Machine", name := "branch", desc := "(LPartitionKernel$Proc;I)I" } : Jvm.MethodName)) ∈ mq_ws pg_Z mi := mq_gw 684 mi (by decide +kernel) (by decide +kernel)
theorem gw_685 (mi : Nat) : (Jvm.Cond.code ({ cls := "PartitionKernel$Machine", name := "branch", desc := "(LPartitionKernel$Proc;I)I" } : Jvm.MethodName) prog_5_method_5_code (5 : Nat) (Option.some Jvm.ClassFile.FieldType.int)) ∈ mq_ws pg_Z mi := mq_gw 685 mi (by decide +kernel) (by decide +kernel)
theorem gw_686 (mi : Nat) : (Jvm.Cond.methodLink "PartitionKernel$Machine" (70 : Nat) ({ cls := "PartitionKernel$Machine", name := "right", desc := "(LPartitionKernel$Proc;I)I" } : Jvm.MethodName)) ∈ mq_ws pg_Z mi := mq_gw 686 mi (by decide +kernel) (by decide +kernel)
theorem gw_687 (mi : Nat) : (Jvm.Cond.static ({ cls := "PartitionKernel$Machine", name := "right", desc := "(LPartitionKernel$Proc;I)I" } : Jvm.MethodName)) ∈ mq_ws pg_Z mi := mq_gw 687 mi (by decide +kernel) (by decide +kernel)
theorem gw_688 (mi : Nat) : (Jvm.Cond.code ({ cls := "PartitionKernel$Machine", name := "right", desc := "(LPartitionKernel$Proc;I)I" } : Jvm.MethodName) prog_5_method_16_code (2 : Nat) (Option.some Jvm.ClassFile.FieldType.int)) ∈ mq_ws pg_Z mi := mq_gw 688 mi (by decide +kernel) (by decide +kernel)
theorem gw_689 (mi : Nat) : (Jvm.Cond.methodLink "PartitionKernel$Machine" (73 : Nat) ({ cls := "PartitionKernel$Machine", name := "isBelow", desc := "(II)Z" } : Jvm.MethodName)) ∈ mq_ws pg_Z mi := mq_gw 689 mi (by decide +kernel) (by decide +kernel)
theorem gw_690 (mi : Nat) : (Jvm.Cond.static ({ cls := "PartitionKernel$Machine", name := "isBelow", desc := "(II)Z" } : Jvm.MethodName)) ∈ mq_ws pg_Z mi := mq_gw 690 mi (by decide +kernel) (by decide +kernel)
theorem gw_691 (mi : Nat) : (Jvm.Cond.code ({ cls := "PartitionKernel$Machine", name := "isBelow", desc := "(II)Z" } : Jvm.MethodName) prog_5_method_12_code (2 : Nat) (Option.some Jvm.ClassFile.FieldType.boolean)) ∈ mq_ws pg_Z mi := mq_gw 691 mi (by decide +kernel) (by decide +kernel)
theorem gw_692 (mi : Nat) : (Jvm.Cond.constant "PartitionKernel$Machine" (101 : Nat) (-2147483648 : Int32)) ∈ mq_ws pg_Z mi := mq_gw 692 mi (by decide +kernel) (by decide +kernel)
theorem gw_693 (mi : Nat) : (Jvm.Cond.methodLink "PartitionKernel$Machine" (76 : Nat) ({ cls := "PartitionKernel$Machine", name := "branchOffset", desc := "(I)I" } : Jvm.MethodName)) ∈ mq_ws pg_Z mi := mq_gw 693 mi (by decide +kernel) (by decide +kernel)
theorem gw_694 (mi : Nat) : (Jvm.Cond.static ({ cls := "PartitionKernel$Machine", name := "branchOffset", desc := "(I)I" } : Jvm.MethodName)) ∈ mq_ws pg_Z mi := mq_gw 694 mi (by decide +kernel) (by decide +kernel)
theorem gw_695 (mi : Nat) : (Jvm.Cond.code ({ cls := "PartitionKernel$Machine", name := "branchOffset", desc := "(I)I" } : Jvm.MethodName) prog_5_method_21_code (1 : Nat) (Option.some Jvm.ClassFile.FieldType.int)) ∈ mq_ws pg_Z mi := mq_gw 695 mi (by decide +kernel) (by decide +kernel)
theorem gw_696 (mi : Nat) : (Jvm.Cond.methodLink "PartitionKernel$Machine" (44 : Nat) ({ cls := "PartitionKernel$Machine", name := "load", desc := "(LPartitionKernel$Proc;ILPartitionKernel$Memory;)I" } : Jvm.MethodName)) ∈ mq_ws pg_Z mi := mq_gw 696 mi (by decide +kernel) (by decide +kernel)
theorem gw_697 (mi : Nat) : (Jvm.Cond.static ({ cls := "PartitionKernel$Machine", name := "load", desc := "(LPartitionKernel$Proc;ILPartitionKernel$Memory;)I" } : Jvm.MethodName)) ∈ mq_ws pg_Z mi := mq_gw 697 mi (by decide +kernel) (by decide +kernel)
theorem gw_698 (mi : Nat) : (Jvm.Cond.code ({ cls := "PartitionKernel$Machine", name := "load", desc := "(LPartitionKernel$Proc;ILPartitionKernel$Memory;)I" } : Jvm.MethodName) prog_5_method_6_code (5 : Nat) (Option.some Jvm.ClassFile.FieldType.int)) ∈ mq_ws pg_Z mi := mq_gw 698 mi (by decide +kernel) (by decide +kernel)
theorem gw_699 (mi : Nat) : (Jvm.Cond.methodLink "PartitionKernel$Machine" (79 : Nat) ({ cls := "PartitionKernel$Memory", name := "readFrom", desc := "(I)I" } : Jvm.MethodName)) ∈ mq_ws pg_Z mi := mq_gw 699 mi (by decide +kernel) (by decide +kernel)
theorem gw_700 (mi : Nat) : (Jvm.Cond.instanceMethod ({ cls := "PartitionKernel$Memory", name := "readFrom", desc := "(I)I" } : Jvm.MethodName)) ∈ mq_ws pg_Z mi := mq_gw 700 mi (by decide +kernel) (by decide +kernel)
theorem gw_701 (mi : Nat) : (Jvm.Cond.selects "PartitionKernel$Memory" ({ cls := "PartitionKernel$Memory", name := "readFrom", desc := "(I)I" } : Jvm.MethodName) ({ cls := "PartitionKernel$Memory", name := "readFrom", desc := "(I)I" } : Jvm.MethodName)) ∈ mq_ws pg_Z mi := mq_gw 701 mi (by decide +kernel) (by decide +kernel)
theorem gw_702 (mi : Nat) : (Jvm.Cond.code ({ cls := "PartitionKernel$Memory", name := "readFrom", desc := "(I)I" } : Jvm.MethodName) prog_6_method_5_code (2 : Nat) (Option.some Jvm.ClassFile.FieldType.int)) ∈ mq_ws pg_Z mi := mq_gw 702 mi (by decide +kernel) (by decide +kernel)
theorem gw_703 (mi : Nat) : (Jvm.Cond.methodLink "PartitionKernel$Memory" (19 : Nat) ({ cls := "PartitionKernel$Memory", name := "readWord", desc := "(I)I" } : Jvm.MethodName)) ∈ mq_ws pg_Z mi := mq_gw 703 mi (by decide +kernel) (by decide +kernel)
theorem gw_704 (mi : Nat) : (Jvm.Cond.methodLink "PartitionKernel$Memory" (23 : Nat) ({ cls := "PartitionKernel$Memory", name := "shiftOf", desc := "(I)I" } : Jvm.MethodName)) ∈ mq_ws pg_Z mi := mq_gw 704 mi (by decide +kernel) (by decide +kernel)
theorem gw_705 (mi : Nat) : (Jvm.Cond.static ({ cls := "PartitionKernel$Memory", name := "shiftOf", desc := "(I)I" } : Jvm.MethodName)) ∈ mq_ws pg_Z mi := mq_gw 705 mi (by decide +kernel) (by decide +kernel)
theorem gw_706 (mi : Nat) : (Jvm.Cond.code ({ cls := "PartitionKernel$Memory", name := "shiftOf", desc := "(I)I" } : Jvm.MethodName) prog_6_method_7_code (1 : Nat) (Option.some Jvm.ClassFile.FieldType.int)) ∈ mq_ws pg_Z mi := mq_gw 706 mi (by decide +kernel) (by decide +kernel)
theorem gw_707 (mi : Nat) : (Jvm.Cond.methodLink "PartitionKernel$Machine" (82 : Nat) ({ cls := "PartitionKernel$Machine", name := "widened", desc := "(II)I" } : Jvm.MethodName)) ∈ mq_ws pg_Z mi := mq_gw 707 mi (by decide +kernel) (by decide +kernel)
theorem gw_708 (mi : Nat) : (Jvm.Cond.static ({ cls := "PartitionKernel$Machine", name := "widened", desc := "(II)I" } : Jvm.MethodName)) ∈ mq_ws pg_Z mi := mq_gw 708 mi (by decide +kernel) (by decide +kernel)
theorem gw_709 (mi : Nat) : (Jvm.Cond.code ({ cls := "PartitionKernel$Machine", name := "widened", desc := "(II)I" } : Jvm.MethodName) prog_5_method_7_code (2 : Nat) (Option.some Jvm.ClassFile.FieldType.int)) ∈ mq_ws pg_Z mi := mq_gw 709 mi (by decide +kernel) (by decide +kernel)
theorem gw_710 (mi : Nat) : (Jvm.Cond.constant "PartitionKernel$Machine" (86 : Nat) (65535 : Int32)) ∈ mq_ws pg_Z mi := mq_gw 710 mi (by decide +kernel) (by decide +kernel)
theorem gw_711 (mi : Nat) : (Jvm.Cond.methodLink "PartitionKernel$Machine" (48 : Nat) ({ cls := "PartitionKernel$Machine", name := "store", desc := "(LPartitionKernel$Proc;ILPartitionKernel$Memory;)I" } : Jvm.MethodName)) ∈ mq_ws pg_Z mi := mq_gw 711 mi (by decide +kernel) (by decide +kernel)
theorem gw_712 (mi : Nat) : (Jvm.Cond.static ({ cls := "PartitionKernel$Machine", name := "store", desc := "(LPartitionKernel$Proc;ILPartitionKernel$Memory;)I" } : Jvm.MethodName)) ∈ mq_ws pg_Z mi := mq_gw 712 mi (by decide +kernel) (by decide +kernel)
theorem gw_713 (mi : Nat) : (Jvm.Cond.code ({ cls := "PartitionKernel$Machine", name := "store", desc := "(LPartitionKernel$Proc;ILPartitionKernel$Memory;)I" } : Jvm.MethodName) prog_5_method_8_code (5 : Nat) (Option.some Jvm.ClassFile.FieldType.int)) ∈ mq_ws pg_Z mi := mq_gw 713 mi (by decide +kernel) (by decide +kernel)
theorem gw_714 (mi : Nat) : (Jvm.Cond.methodLink "PartitionKernel$Machine" (87 : Nat) ({ cls := "PartitionKernel$Machine", name := "storeOffset", desc := "(I)I" } : Jvm.MethodName)) ∈ mq_ws pg_Z mi := mq_gw 714 mi (by decide +kernel) (by decide +kernel)
theorem gw_715 (mi : Nat) : (Jvm.Cond.static ({ cls := "PartitionKernel$Machine", name := "storeOffset", desc := "(I)I" } : Jvm.MethodName)) ∈ mq_ws pg_Z mi := mq_gw 715 mi (by decide +kernel) (by decide +kernel)
theorem gw_716 (mi : Nat) : (Jvm.Cond.code ({ cls := "PartitionKernel$Machine", name := "storeOffset", desc := "(I)I" } : Jvm.MethodName) prog_5_method_19_code (1 : Nat) (Option.some Jvm.ClassFile.FieldType.int)) ∈ mq_ws pg_Z mi := mq_gw 716 mi (by decide +kernel) (by decide +kernel)
theorem gw_717 (mi : Nat) : (Jvm.Cond.methodLink "PartitionKernel$Machine" (90 : Nat) ({ cls := "PartitionKernel$Memory", name := "write", desc := "(III)V" } : Jvm.MethodName)) ∈ mq_ws pg_Z mi := mq_gw 717 mi (by decide +kernel) (by decide +kernel)
theorem gw_718 (mi : Nat) : (Jvm.Cond.instanceMethod ({ cls := "PartitionKernel$Memory", name := "write", desc := "(III)V" } : Jvm.MethodName)) ∈ mq_ws pg_Z mi := mq_gw 718 mi (by decide +kernel) (by decide +kernel)
theorem gw_719 (mi : Nat) : (Jvm.Cond.selects "PartitionKernel$Memory" ({ cls := "PartitionKernel$Memory", name := "write", desc := "(III)V" } : Jvm.MethodName) ({ cls := "PartitionKernel$Memory", name := "write", desc := "(III)V" } : Jvm.MethodName)) ∈ mq_ws pg_Z mi := mq_gw 719 mi (by decide +kernel) (by decide +kernel)
theorem gw_720 (mi : Nat) : (Jvm.Cond.code ({ cls := "PartitionKernel$Memory", name := "write", desc := "(III)V" } : Jvm.MethodName) prog_6_method_6_code (7 : Nat) (Option.none : Option Jvm.ClassFile.FieldType)) ∈ mq_ws pg_Z mi := mq_gw 720 mi (by decide +kernel) (by decide +kernel)
theorem gw_721 (mi : Nat) : (Jvm.Cond.methodLink "PartitionKernel$Memory" (26 : Nat) ({ cls := "PartitionKernel$Memory", name := "writeWord", desc := "(II)V" } : Jvm.MethodName)) ∈ mq_ws pg_Z mi := mq_gw 721 mi (by decide +kernel) (by decide +kernel)
theorem gw_722 (mi : Nat) : (Jvm.Cond.methodLink "PartitionKernel$Machine" (51 : Nat) ({ cls := "PartitionKernel$Machine", name := "reckonWithImmediate", desc := "(LPartitionKernel$Proc;I)I" } : Jvm.MethodName)) ∈ mq_ws pg_Z mi := mq_gw 722 mi (by decide +kernel) (by decide +kernel)
theorem gw_723 (mi : Nat) : (Jvm.Cond.static ({ cls := "PartitionKernel$Machine", name := "reckonWithImmediate", desc := "(LPartitionKernel$Proc;I)I" } : Jvm.MethodName)) ∈ mq_ws pg_Z mi := mq_gw 723 mi (by decide +kernel) (by decide +kernel)
theorem gw_724 (mi : Nat) : (Jvm.Cond.code ({ cls := "PartitionKernel$Machine", name := "reckonWithImmediate", desc := "(LPartitionKernel$Proc;I)I" } : Jvm.MethodName) prog_5_method_9_code (5 : Nat) (Option.some Jvm.ClassFile.FieldType.int)) ∈ mq_ws pg_Z mi := mq_gw 724 mi (by decide +kernel) (by decide +kernel)
theorem gw_725 (mi : Nat) : (Jvm.Cond.methodLink "PartitionKernel$Machine" (94 : Nat) ({ cls := "PartitionKernel$Machine", name := "f7", desc := "(I)I" } : Jvm.MethodName)) ∈ mq_ws pg_Z mi := mq_gw 725 mi (by decide +kernel) (by decide +kernel)
theorem gw_726 (mi : Nat) : (Jvm.Cond.static ({ cls := "PartitionKernel$Machine", name := "f7", desc := "(I)I" } : Jvm.MethodName)) ∈ mq_ws pg_Z mi := mq_gw 726 mi (by decide +kernel) (by decide +kernel)
theorem gw_727 (mi : Nat) : (Jvm.Cond.code ({ cls := "PartitionKernel$Machine", name := "f7", desc := "(I)I" } : Jvm.MethodName) prog_5_method_14_code (1 : Nat) (Option.some Jvm.ClassFile.FieldType.int)) ∈ mq_ws pg_Z mi := mq_gw 727 mi (by decide +kernel) (by decide +kernel)
theorem gw_728 (mi : Nat) : (Jvm.Cond.methodLink "PartitionKernel$Machine" (97 : Nat) ({ cls := "PartitionKernel$Machine", name := "reckon", desc := "(IZII)I" } : Jvm.MethodName)) ∈ mq_ws pg_Z mi := mq_gw 728 mi (by decide +kernel) (by decide +kernel)
theorem gw_729 (mi : Nat) : (Jvm.Cond.static ({ cls := "PartitionKernel$Machine", name := "reckon", desc := "(IZII)I" } : Jvm.MethodName)) ∈ mq_ws pg_Z mi := mq_gw 729 mi (by decide +kernel) (by decide +kernel)
theorem gw_730 (mi : Nat) : (Jvm.Cond.code ({ cls := "PartitionKernel$Machine", name := "reckon", desc := "(IZII)I" } : Jvm.MethodName) prog_5_method_11_code (4 : Nat) (Option.some Jvm.ClassFile.FieldType.int)) ∈ mq_ws pg_Z mi := mq_gw 730 mi (by decide +kernel) (by decide +kernel)
theorem gw_731 (mi : Nat) : (Jvm.Cond.methodLink "PartitionKernel$Machine" (54 : Nat) ({ cls := "PartitionKernel$Machine", name := "reckonWithRegister", desc := "(LPartitionKernel$Proc;I)I" } : Jvm.MethodName)) ∈ mq_ws pg_Z mi := mq_gw 731 mi (by decide +kernel) (by decide +kernel)
theorem gw_732 (mi : Nat) : (Jvm.Cond.static ({ cls := "PartitionKernel$Machine", name := "reckonWithRegister", desc := "(LPartitionKernel$Proc;I)I" } : Jvm.MethodName)) ∈ mq_ws pg_Z mi := mq_gw 732 mi (by decide +kernel) (by decide +kernel)
theorem gw_733 (mi : Nat) : (Jvm.Cond.code ({ cls := "PartitionKernel$Machine", name := "reckonWithRegister", desc := "(LPartitionKernel$Proc;I)I" } : Jvm.MethodName) prog_5_method_10_code (4 : Nat) (Option.some Jvm.ClassFile.FieldType.int)) ∈ mq_ws pg_Z mi := mq_gw 733 mi (by decide +kernel) (by decide +kernel)
theorem gw_734 (mi : Nat) : (Jvm.Cond.methodLink "PartitionKernel" (209 : Nat) ({ cls := "PartitionKernel", name := "serve", desc := "(LPartitionKernel$Partition;LPartitionKernel$Proc;)I" } : Jvm.MethodName)) ∈ mq_ws pg_Z mi := mq_gw 734 mi (by decide +kernel) (by decide +kernel)
theorem gw_736 (mi : Nat) : (Jvm.Cond.instanceMethod ({ cls := "PartitionKernel", name := "serve", desc := "(LPartitionKernel$Partition;LPartitionKernel$Proc;)I" } : Jvm.MethodName)) ∈ mq_ws pg_Z mi := mq_gw 736 mi (by decide +kernel) (by decide +kernel)
theorem gw_737 (mi : Nat) : (Jvm.Cond.code ({ cls := "PartitionKernel", name := "serve", desc := "(LPartitionKernel$Partition;LPartitionKernel$Proc;)I" } : Jvm.MethodName) prog_1_method_26_code (4 : Nat) (Option.some Jvm.ClassFile.FieldType.int)) ∈ mq_ws pg_Z mi := mq_gw 737 mi (by decide +kernel) (by decide +kernel)
theorem gw_738 (mi : Nat) : (Jvm.Cond.methodLink "PartitionKernel" (253 : Nat) ({ cls := "PartitionKernel", name := "answer", desc := "(ILPartitionKernel$Partition;LPartitionKernel$Proc;)I" } : Jvm.MethodName)) ∈ mq_ws pg_Z mi := mq_gw 738 mi (by decide +kernel) (by decide +kernel)
theorem gw_740 (mi : Nat) : (Jvm.Cond.instanceMethod ({ cls := "PartitionKernel", name := "answer", desc := "(ILPartitionKernel$Partition;LPartitionKernel$Proc;)I" } : Jvm.MethodName)) ∈ mq_ws pg_Z mi := mq_gw 740 mi (by decide +kernel) (by decide +kernel)
theorem gw_741 (mi : Nat) : (Jvm.Cond.code ({ cls := "PartitionKernel", name := "answer", desc := "(ILPartitionKernel$Partition;LPartitionKernel$Proc;)I" } : Jvm.MethodName) prog_1_method_27_code (6 : Nat) (Option.some Jvm.ClassFile.FieldType.int)) ∈ mq_ws pg_Z mi := mq_gw 741 mi (by decide +kernel) (by decide +kernel)
theorem gw_742 (mi : Nat) : (Jvm.Cond.methodLink "PartitionKernel" (260 : Nat) ({ cls := "PartitionKernel$Partition", name := "awaitRelease", desc := "(LPartitionKernel$Proc;)I" } : Jvm.MethodName)) ∈ mq_ws pg_Z mi := mq_gw 742 mi (by decide +kernel) (by decide +kernel)
theorem gw_743 (mi : Nat) : (Jvm.Cond.instanceMethod ({ cls := "PartitionKernel$Partition", name := "awaitRelease", desc := "(LPartitionKernel$Proc;)I" } : Jvm.MethodName)) ∈ mq_ws pg_Z mi := mq_gw 743 mi (by decide +kernel) (by decide +kernel)
theorem gw_744 (mi : Nat) : (Jvm.Cond.selects "PartitionKernel$Partition" ({ cls := "PartitionKernel$Partition", name := "awaitRelease", desc := "(LPartitionKernel$Proc;)I" } : Jvm.MethodName) ({ cls := "PartitionKernel$Partition", name := "awaitRelease", desc := "(LPartitionKernel$Proc;)I" } : Jvm.MethodName)) ∈ mq_ws pg_Z mi := mq_gw 744 mi (by decide +kernel) (by decide +kernel)
theorem gw_745 (mi : Nat) : (Jvm.Cond.code ({ cls := "PartitionKernel$Partition", name := "awaitRelease", desc := "(LPartitionKernel$Proc;)I" } : Jvm.MethodName) prog_7_method_11_code (2 : Nat) (Option.some Jvm.ClassFile.FieldType.int)) ∈ mq_ws pg_Z mi := mq_gw 745 mi (by decide +kernel) (by decide +kernel)
theorem gw_746 (mi : Nat) : (Jvm.Cond.methodLink "PartitionKernel" (264 : Nat) ({ cls := "PartitionKernel$Partition", name := "awaitSpan", desc := "(LPartitionKernel$Proc;II)I" } : Jvm.MethodName)) ∈ mq_ws pg_Z mi := mq_gw 746 mi (by decide +kernel) (by decide +kernel)
theorem gw_747 (mi : Nat) : (Jvm.Cond.instanceMethod ({ cls := "PartitionKernel$Partition", name := "awaitSpan", desc := "(LPartitionKernel$Proc;II)I" } : Jvm.MethodName)) ∈ mq_ws pg_Z mi := mq_gw 747 mi (by decide +kernel) (by decide +kernel)
theorem gw_748 (mi : Nat) : (Jvm.Cond.selects "PartitionKernel$Partition" ({ cls := "PartitionKernel$Partition", name := "awaitSpan", desc := "(LPartitionKernel$Proc;II)I" } : Jvm.MethodName) ({ cls := "PartitionKernel$Partition", name := "awaitSpan", desc := "(LPartitionKernel$Proc;II)I" } : Jvm.MethodName)) ∈ mq_ws pg_Z mi := mq_gw 748 mi (by decide +kernel) (by decide +kernel)
theorem gw_749 (mi : Nat) : (Jvm.Cond.code ({ cls := "PartitionKernel$Partition", name := "awaitSpan", desc := "(LPartitionKernel$Proc;II)I" } : Jvm.MethodName) prog_7_method_12_code (4 : Nat) (Option.some Jvm.ClassFile.FieldType.int)) ∈ mq_ws pg_Z mi := mq_gw 749 mi (by decide +kernel) (by decide +kernel)
theorem gw_751 (mi : Nat) : (Jvm.Cond.methodLink "PartitionKernel" (268 : Nat) ({ cls := "PartitionKernel$Partition", name := "startDormant", desc := "(II)I" } : Jvm.MethodName)) ∈ mq_ws pg_Z mi := mq_gw 751 mi (by decide +kernel) (by decide +kernel)
theorem gw_752 (mi : Nat) : (Jvm.Cond.instanceMethod ({ cls := "PartitionKernel$Partition", name := "startDormant", desc := "(II)I" } : Jvm.MethodName)) ∈ mq_ws pg_Z mi := mq_gw 752 mi (by decide +kernel) (by decide +kernel)
theorem gw_753 (mi : Nat) : (Jvm.Cond.selects "PartitionKernel$Partition" ({ cls := "PartitionKernel$Partition", name := "startDormant", desc := "(II)I" } : Jvm.MethodName) ({ cls := "PartitionKernel$Partition", name := "startDormant", desc := "(II)I" } : Jvm.MethodName)) ∈ mq_ws pg_Z mi := mq_gw 753 mi (by decide +kernel) (by decide +kernel)
theorem gw_754 (mi : Nat) : (Jvm.Cond.code ({ cls := "PartitionKernel$Partition", name := "startDormant", desc := "(II)I" } : Jvm.MethodName) prog_7_method_13_code (4 : Nat) (Option.some Jvm.ClassFile.FieldType.int)) ∈ mq_ws pg_Z mi := mq_gw 754 mi (by decide +kernel) (by decide +kernel)
theorem gw_755 (mi : Nat) : (Jvm.Cond.methodLink "PartitionKernel$Partition" (106 : Nat) ({ cls := "PartitionKernel$Partition", name := "find", desc := "(I)LPartitionKernel$Proc;" } : Jvm.MethodName)) ∈ mq_ws pg_Z mi := mq_gw 755 mi (by decide +kernel) (by decide +kernel)
theorem gw_756 (mi : Nat) : (Jvm.Cond.methodLink "PartitionKernel" (271 : Nat) ({ cls := "PartitionKernel$Partition", name := "setPriority", desc := "(II)I" } : Jvm.MethodName)) ∈ mq_ws pg_Z mi := mq_gw 756 mi (by decide +kernel) (by decide +kernel)
theorem gw_757 (mi : Nat) : (Jvm.Cond.instanceMethod ({ cls := "PartitionKernel$Partition", name := "setPriority", desc := "(II)I" } : Jvm.MethodName)) ∈ mq_ws pg_Z mi := mq_gw 757 mi (by decide +kernel) (by decide +kernel)
theorem gw_758 (mi : Nat) : (Jvm.Cond.selects "PartitionKernel$Partition" ({ cls := "PartitionKernel$Partition", name := "setPriority", desc := "(II)I" } : Jvm.MethodName) ({ cls := "PartitionKernel$Partition", name := "setPriority", desc := "(II)I" } : Jvm.MethodName)) ∈ mq_ws pg_Z mi := mq_gw 758 mi (by decide +kernel) (by decide +kernel)
theorem gw_759 (mi : Nat) : (Jvm.Cond.code ({ cls := "PartitionKernel$Partition", name := "setPriority", desc := "(II)I" } : Jvm.MethodName) prog_7_method_14_code (4 : Nat) (Option.some Jvm.ClassFile.FieldType.int)) ∈ mq_ws pg_Z mi := mq_gw 759 mi (by decide +kernel) (by decide +kernel)
theorem gw_761 (mi : Nat) : (Jvm.Cond.methodLink "PartitionKernel" (274 : Nat) ({ cls := "PartitionKernel$Partition", name := "takeSemaphore", desc := "(LPartitionKernel$Proc;I)I" } : Jvm.MethodName)) ∈ mq_ws pg_Z mi := mq_gw 761 mi (by decide +kernel) (by decide +kernel)
theorem gw_762 (mi : Nat) : (Jvm.Cond.instanceMethod ({ cls := "PartitionKernel$Partition", name := "takeSemaphore", desc := "(LPartitionKernel$Proc;I)I" } : Jvm.MethodName)) ∈ mq_ws pg_Z mi := mq_gw 762 mi (by decide +kernel) (by decide +kernel)
theorem gw_763 (mi : Nat) : (Jvm.Cond.selects "PartitionKernel$Partition" ({ cls := "PartitionKernel$Partition", name := "takeSemaphore", desc := "(LPartitionKernel$Proc;I)I" } : Jvm.MethodName) ({ cls := "PartitionKernel$Partition", name := "takeSemaphore", desc := "(LPartitionKernel$Proc;I)I" } : Jvm.MethodName)) ∈ mq_ws pg_Z mi := mq_gw 763 mi (by decide +kernel) (by decide +kernel)
theorem gw_764 (mi : Nat) : (Jvm.Cond.code ({ cls := "PartitionKernel$Partition", name := "takeSemaphore", desc := "(LPartitionKernel$Proc;I)I" } : Jvm.MethodName) prog_7_method_15_code (3 : Nat) (Option.some Jvm.ClassFile.FieldType.int)) ∈ mq_ws pg_Z mi := mq_gw 764 mi (by decide +kernel) (by decide +kernel)
theorem gw_765 (mi : Nat) : (Jvm.Cond.methodLink "PartitionKernel" (278 : Nat) ({ cls := "PartitionKernel$Partition", name := "giveSemaphore", desc := "(I)I" } : Jvm.MethodName)) ∈ mq_ws pg_Z mi := mq_gw 765 mi (by decide +kernel) (by decide +kernel)
theorem gw_766 (mi : Nat) : (Jvm.Cond.instanceMethod ({ cls := "PartitionKernel$Partition", name := "giveSemaphore", desc := "(I)I" } : Jvm.MethodName)) ∈ mq_ws pg_Z mi := mq_gw 766 mi (by decide +kernel) (by decide +kernel)
theorem gw_767 (mi : Nat) : (Jvm.Cond.selects "PartitionKernel$Partition" ({ cls := "PartitionKernel$Partition", name := "giveSemaphore", desc := "(I)I" } : Jvm.MethodName) ({ cls := "PartitionKernel$Partition", name := "giveSemaphore", desc := "(I)I" } : Jvm.MethodName)) ∈ mq_ws pg_Z mi := mq_gw 767 mi (by decide +kernel) (by decide +kernel)
theorem gw_768 (mi : Nat) : (Jvm.Cond.code ({ cls := "PartitionKernel$Partition", name := "giveSemaphore", desc := "(I)I" } : Jvm.MethodName) prog_7_method_16_code (3 : Nat) (Option.some Jvm.ClassFile.FieldType.int)) ∈ mq_ws pg_Z mi := mq_gw 768 mi (by decide +kernel) (by decide +kernel)
theorem gw_769 (mi : Nat) : (Jvm.Cond.methodLink "PartitionKernel" (281 : Nat) ({ cls := "PartitionKernel", name := "send", desc := "(LPartitionKernel$Partition;II)I" } : Jvm.MethodName)) ∈ mq_ws pg_Z mi := mq_gw 769 mi (by decide +kernel) (by decide +kernel)
theorem gw_771 (mi : Nat) : (Jvm.Cond.instanceMethod ({ cls := "PartitionKernel", name := "send", desc := "(LPartitionKernel$Partition;II)I" } : Jvm.MethodName)) ∈ mq_ws pg_Z mi := mq_gw 771 mi (by decide +kernel) (by decide +kernel)
theorem gw_772 (mi : Nat) : (Jvm.Cond.code ({ cls := "PartitionKernel", name := "send", desc := "(LPartitionKernel$Partition;II)I" } : Jvm.MethodName) prog_1_method_28_code (5 : Nat) (Option.some Jvm.ClassFile.FieldType.int)) ∈ mq_ws pg_Z mi := mq_gw 772 mi (by decide +kernel) (by decide +kernel)
theorem gw_773 (mi : Nat) : (Jvm.Cond.methodLink "PartitionKernel" (292 : Nat) ({ cls := "PartitionKernel$Channel", name := "put", desc := "(II)I" } : Jvm.MethodName)) ∈ mq_ws pg_Z mi := mq_gw 773 mi (by decide +kernel) (by decide +kernel)
theorem gw_774 (mi : Nat) : (Jvm.Cond.instanceMethod ({ cls := "PartitionKernel$Channel", name := "put", desc := "(II)I" } : Jvm.MethodName)) ∈ mq_ws pg_Z mi := mq_gw 774 mi (by decide +kernel) (by decide +kernel)
theorem gw_775 (mi : Nat) : (Jvm.Cond.selects "PartitionKernel$Channel" ({ cls := "PartitionKernel$Channel", name := "put", desc := "(II)I" } : Jvm.MethodName) ({ cls := "PartitionKernel$Channel", name := "put", desc := "(II)I" } : Jvm.MethodName)) ∈ mq_ws pg_Z mi := mq_gw 775 mi (by decide +kernel) (by decide +kernel)
theorem gw_776 (mi : Nat) : (Jvm.Cond.code ({ cls := "PartitionKernel$Channel", name := "put", desc := "(II)I" } : Jvm.MethodName) prog_2_method_3_code (3 : Nat) (Option.some Jvm.ClassFile.FieldType.int)) ∈ mq_ws pg_Z mi := mq_gw 776 mi (by decide +kernel) (by decide +kernel)
theorem gw_777 (mi : Nat) : (Jvm.Cond.methodLink "PartitionKernel" (285 : Nat) ({ cls := "PartitionKernel", name := "receive", desc := "(LPartitionKernel$Partition;ILPartitionKernel$Proc;)I" } : Jvm.MethodName)) ∈ mq_ws pg_Z mi := mq_gw 777 mi (by decide +kernel) (by decide +kernel)
theorem gw_779 (mi : Nat) : (Jvm.Cond.instanceMethod ({ cls := "PartitionKernel", name := "receive", desc := "(LPartitionKernel$Partition;ILPartitionKernel$Proc;)I" } : Jvm.MethodName)) ∈ mq_ws pg_Z mi := mq_gw 779 mi (by decide +kernel) (by decide +kernel)
theorem gw_780 (mi : Nat) : (Jvm.Cond.code ({ cls := "PartitionKernel", name := "receive", desc := "(LPartitionKernel$Partition;ILPartitionKernel$Proc;)I" } : Jvm.MethodName) prog_1_method_29_code (5 : Nat) (Option.some Jvm.ClassFile.FieldType.int)) ∈ mq_ws pg_Z mi := mq_gw 780 mi (by decide +kernel) (by decide +kernel)
theorem gw_781 (mi : Nat) : (Jvm.Cond.methodLink "PartitionKernel" (257 : Nat) ({ cls := "PartitionKernel$Proc", name := "set", desc := "(II)V" } : Jvm.MethodName)) ∈ mq_ws pg_Z mi := mq_gw 781 mi (by decide +kernel) (by decide +kernel)
theorem gw_782 (mi : Nat) : (Jvm.Cond.methodLink "PartitionKernel" (299 : Nat) ({ cls := "PartitionKernel$Channel", name := "taken", desc := "(I)I" } : Jvm.MethodName)) ∈ mq_ws pg_Z mi := mq_gw 782 mi (by decide +kernel) (by decide +kernel)
theorem gw_783 (mi : Nat) : (Jvm.Cond.instanceMethod ({ cls := "PartitionKernel$Channel", name := "taken", desc := "(I)I" } : Jvm.MethodName)) ∈ mq_ws pg_Z mi := mq_gw 783 mi (by decide +kernel) (by decide +kernel)
theorem gw_784 (mi : Nat) : (Jvm.Cond.selects "PartitionKernel$Channel" ({ cls := "PartitionKernel$Channel", name := "taken", desc := "(I)I" } : Jvm.MethodName) ({ cls := "PartitionKernel$Channel", name := "taken", desc := "(I)I" } : Jvm.MethodName)) ∈ mq_ws pg_Z mi := mq_gw 784 mi (by decide +kernel) (by decide +kernel)
theorem gw_785 (mi : Nat) : (Jvm.Cond.code ({ cls := "PartitionKernel$Channel", name := "taken", desc := "(I)I" } : Jvm.MethodName) prog_2_method_4_code (2 : Nat) (Option.some Jvm.ClassFile.FieldType.int)) ∈ mq_ws pg_Z mi := mq_gw 785 mi (by decide +kernel) (by decide +kernel)
theorem gw_786 (mi : Nat) : (Jvm.Cond.methodLink "PartitionKernel" (151 : Nat) ({ cls := "PartitionKernel$Frame", name := "advance", desc := "()V" } : Jvm.MethodName)) ∈ mq_ws pg_Z mi := mq_gw 786 mi (by decide +kernel) (by decide +kernel)
theorem gw_787 (mi : Nat) : (Jvm.Cond.instanceMethod ({ cls := "PartitionKernel$Frame", name := "advance", desc := "()V" } : Jvm.MethodName)) ∈ mq_ws pg_Z mi := mq_gw 787 mi (by decide +kernel) (by decide +kernel)
theorem gw_788 (mi : Nat) : (Jvm.Cond.selects "PartitionKernel$Frame" ({ cls := "PartitionKernel$Frame", name := "advance", desc := "()V" } : Jvm.MethodName) ({ cls := "PartitionKernel$Frame", name := "advance", desc := "()V" } : Jvm.MethodName)) ∈ mq_ws pg_Z mi := mq_gw 788 mi (by decide +kernel) (by decide +kernel)
theorem gw_789 (mi : Nat) : (Jvm.Cond.code ({ cls := "PartitionKernel$Frame", name := "advance", desc := "()V" } : Jvm.MethodName) prog_4_method_4_code (1 : Nat) (Option.none : Option Jvm.ClassFile.FieldType)) ∈ mq_ws pg_Z mi := mq_gw 789 mi (by decide +kernel) (by decide +kernel)
theorem gw_795 (mi : Nat) : (Jvm.Cond.methodLink "PartitionKernelModel" (1 : Nat) ({ cls := "java/lang/Object", name := "<init>", desc := "()V" } : Jvm.MethodName)) ∈ mq_ws pg_Z mi := mq_gw 795 mi (by decide +kernel) (by decide +kernel)
theorem gw_796 (mi : Nat) : (Jvm.Cond.fieldLink "PartitionKernelModel" (108 : Nat) "PartitionKernelModel" "thrown" "I") ∈ mq_ws pg_Z mi := mq_gw 796 mi (by decide +kernel) (by decide +kernel)
theorem gw_797 (mi : Nat) : (Jvm.Cond.fieldLink "PartitionKernelModel" (253 : Nat) "PartitionKernelModel" "begun" "Z") ∈ mq_ws pg_Z mi := mq_gw 797 mi (by decide +kernel) (by decide +kernel)
theorem gw_798 (mi : Nat) : (Jvm.Cond.fieldLink "PartitionKernelModel" (115 : Nat) "PartitionKernelModel" "time" "I") ∈ mq_ws pg_Z mi := mq_gw 798 mi (by decide +kernel) (by decide +kernel)
theorem gw_799 (mi : Nat) : (Jvm.Cond.fieldLink "PartitionKernelModel" (256 : Nat) "PartitionKernelModel" "windows" "I") ∈ mq_ws pg_Z mi := mq_gw 799 mi (by decide +kernel) (by decide +kernel)
theorem gw_800 (mi : Nat) : (Jvm.Cond.fieldLink "PartitionKernelModel" (227 : Nat) "PartitionKernelModel" "frame" "I") ∈ mq_ws pg_Z mi := mq_gw 800 mi (by decide +kernel) (by decide +kernel)
theorem gw_801 (mi : Nat) : (Jvm.Cond.fieldLink "PartitionKernelModel" (247 : Nat) "PartitionKernelModel" "done" "I") ∈ mq_ws pg_Z mi := mq_gw 801 mi (by decide +kernel) (by decide +kernel)
theorem gw_802 (mi : Nat) : (Jvm.Cond.fieldLink "PartitionKernelModel" (7 : Nat) "PartitionKernelModel" "windowOf" "[I") ∈ mq_ws pg_Z mi := mq_gw 802 mi (by decide +kernel) (by decide +kernel)
theorem gw_803 (mi : Nat) : (Jvm.Cond.fieldLink "PartitionKernelModel" (13 : Nat) "PartitionKernelModel" "ticks" "[I") ∈ mq_ws pg_Z mi := mq_gw 803 mi (by decide +kernel) (by decide +kernel)
theorem gw_804 (mi : Nat) : (Jvm.Cond.fieldLink "PartitionKernelModel" (16 : Nat) "PartitionKernelModel" "memory" "[B") ∈ mq_ws pg_Z mi := mq_gw 804 mi (by decide +kernel) (by decide +kernel)
theorem gw_805 (mi : Nat) : (Jvm.Cond.fieldLink "PartitionKernelModel" (20 : Nat) "PartitionKernelModel" "actions" "[I") ∈ mq_ws pg_Z mi := mq_gw 805 mi (by decide +kernel) (by decide +kernel)
theorem gw_806 (mi : Nat) : (Jvm.Cond.fieldLink "PartitionKernelModel" (23 : Nat) "PartitionKernelModel" "semaphores" "[I") ∈ mq_ws pg_Z mi := mq_gw 806 mi (by decide +kernel) (by decide +kernel)
theorem gw_807 (mi : Nat) : (Jvm.Cond.fieldLink "PartitionKernelModel" (26 : Nat) "PartitionKernelModel" "processes" "[I") ∈ mq_ws pg_Z mi := mq_gw 807 mi (by decide +kernel) (by decide +kernel)
theorem gw_808 (mi : Nat) : (Jvm.Cond.fieldLink "PartitionKernelModel" (29 : Nat) "PartitionKernelModel" "again" "[I") ∈ mq_ws pg_Z mi := mq_gw 808 mi (by decide +kernel) (by decide +kernel)
theorem gw_809 (mi : Nat) : (Jvm.Cond.fieldLink "PartitionKernelModel" (32 : Nat) "PartitionKernelModel" "stopped" "[Z") ∈ mq_ws pg_Z mi := mq_gw 809 mi (by decide +kernel) (by decide +kernel)
theorem gw_810 (mi : Nat) : (Jvm.Cond.fieldLink "PartitionKernelModel" (36 : Nat) "PartitionKernelModel" "entry" "[I") ∈ mq_ws pg_Z mi := mq_gw 810 mi (by decide +kernel) (by decide +kernel)
theorem gw_811 (mi : Nat) : (Jvm.Cond.fieldLink "PartitionKernelModel" (39 : Nat) "PartitionKernelModel" "priority" "[I") ∈ mq_ws pg_Z mi := mq_gw 811 mi (by decide +kernel) (by decide +kernel)
theorem gw_812 (mi : Nat) : (Jvm.Cond.fieldLink "PartitionKernelModel" (42 : Nat) "PartitionKernelModel" "period" "[I") ∈ mq_ws pg_Z mi := mq_gw 812 mi (by decide +kernel) (by decide +kernel)
theorem gw_813 (mi : Nat) : (Jvm.Cond.fieldLink "PartitionKernelModel" (45 : Nat) "PartitionKernelModel" "deadline" "[I") ∈ mq_ws pg_Z mi := mq_gw 813 mi (by decide +kernel) (by decide +kernel)
theorem gw_814 (mi : Nat) : (Jvm.Cond.fieldLink "PartitionKernelModel" (48 : Nat) "PartitionKernelModel" "pc" "[I") ∈ mq_ws pg_Z mi := mq_gw 814 mi (by decide +kernel) (by decide +kernel)
theorem gw_815 (mi : Nat) : (Jvm.Cond.fieldLink "PartitionKernelModel" (51 : Nat) "PartitionKernelModel" "state" "[I") ∈ mq_ws pg_Z mi := mq_gw 815 mi (by decide +kernel) (by decide +kernel)
theorem gw_816 (mi : Nat) : (Jvm.Cond.fieldLink "PartitionKernelModel" (54 : Nat) "PartitionKernelModel" "due" "[I") ∈ mq_ws pg_Z mi := mq_gw 816 mi (by decide +kernel) (by decide +kernel)
theorem gw_817 (mi : Nat) : (Jvm.Cond.fieldLink "PartitionKernelModel" (57 : Nat) "PartitionKernelModel" "wait" "[I") ∈ mq_ws pg_Z mi := mq_gw 817 mi (by decide +kernel) (by decide +kernel)
theorem gw_818 (mi : Nat) : (Jvm.Cond.fieldLink "PartitionKernelModel" (60 : Nat) "PartitionKernelModel" "semaphore" "[I") ∈ mq_ws pg_Z mi := mq_gw 818 mi (by decide +kernel) (by decide +kernel)
theorem gw_819 (mi : Nat) : (Jvm.Cond.fieldLink "PartitionKernelModel" (63 : Nat) "PartitionKernelModel" "turn" "[I") ∈ mq_ws pg_Z mi := mq_gw 819 mi (by decide +kernel) (by decide +kernel)
theorem gw_820 (mi : Nat) : (Jvm.Cond.fieldLink "PartitionKernelModel" (66 : Nat) "PartitionKernelModel" "did" "[I") ∈ mq_ws pg_Z mi := mq_gw 820 mi (by decide +kernel) (by decide +kernel)
theorem gw_821 (mi : Nat) : (Jvm.Cond.fieldLink "PartitionKernelModel" (69 : Nat) "PartitionKernelModel" "release" "[I") ∈ mq_ws pg_Z mi := mq_gw 821 mi (by decide +kernel) (by decide +kernel)
theorem gw_822 (mi : Nat) : (Jvm.Cond.fieldLink "PartitionKernelModel" (72 : Nat) "PartitionKernelModel" "registers" "[I") ∈ mq_ws pg_Z mi := mq_gw 822 mi (by decide +kernel) (by decide +kernel)
theorem gw_823 (mi : Nat) : (Jvm.Cond.fieldLink "PartitionKernelModel" (112 : Nat) "PartitionKernelModel" "turns" "I") ∈ mq_ws pg_Z mi := mq_gw 823 mi (by decide +kernel) (by decide +kernel)
theorem gw_824 (mi : Nat) : (Jvm.Cond.fieldLink "PartitionKernelModel" (201 : Nat) "PartitionKernelModel" "channels" "I") ∈ mq_ws pg_Z mi := mq_gw 824 mi (by decide +kernel) (by decide +kernel)
theorem gw_825 (mi : Nat) : (Jvm.Cond.fieldLink "PartitionKernelModel" (75 : Nat) "PartitionKernelModel" "queue" "[Z") ∈ mq_ws pg_Z mi := mq_gw 825 mi (by decide +kernel) (by decide +kernel)
theorem gw_826 (mi : Nat) : (Jvm.Cond.fieldLink "PartitionKernelModel" (78 : Nat) "PartitionKernelModel" "from" "[I") ∈ mq_ws pg_Z mi := mq_gw 826 mi (by decide +kernel) (by decide +kernel)
theorem gw_827 (mi : Nat) : (Jvm.Cond.fieldLink "PartitionKernelModel" (81 : Nat) "PartitionKernelModel" "to" "[I") ∈ mq_ws pg_Z mi := mq_gw 827 mi (by decide +kernel) (by decide +kernel)
theorem gw_828 (mi : Nat) : (Jvm.Cond.fieldLink "PartitionKernelModel" (84 : Nat) "PartitionKernelModel" "limit" "[I") ∈ mq_ws pg_Z mi := mq_gw 828 mi (by decide +kernel) (by decide +kernel)
theorem gw_829 (mi : Nat) : (Jvm.Cond.fieldLink "PartitionKernelModel" (87 : Nat) "PartitionKernelModel" "length" "[I") ∈ mq_ws pg_Z mi := mq_gw 829 mi (by decide +kernel) (by decide +kernel)
theorem gw_830 (mi : Nat) : (Jvm.Cond.fieldLink "PartitionKernelModel" (90 : Nat) "PartitionKernelModel" "sent" "[I") ∈ mq_ws pg_Z mi := mq_gw 830 mi (by decide +kernel) (by decide +kernel)
theorem gw_831 (mi : Nat) : (Jvm.Cond.fieldLink "PartitionKernelModel" (93 : Nat) "PartitionKernelModel" "words" "[I") ∈ mq_ws pg_Z mi := mq_gw 831 mi (by decide +kernel) (by decide +kernel)
theorem gw_832 (mi : Nat) : (Jvm.Cond.fieldLink "PartitionKernelModel" (125 : Nat) "PartitionKernelModel" "errors" "I") ∈ mq_ws pg_Z mi := mq_gw 832 mi (by decide +kernel) (by decide +kernel)
theorem gw_833 (mi : Nat) : (Jvm.Cond.fieldLink "PartitionKernelModel" (96 : Nat) "PartitionKernelModel" "errorTime" "[I") ∈ mq_ws pg_Z mi := mq_gw 833 mi (by decide +kernel) (by decide +kernel)
theorem gw_834 (mi : Nat) : (Jvm.Cond.fieldLink "PartitionKernelModel" (99 : Nat) "PartitionKernelModel" "errorPart" "[I") ∈ mq_ws pg_Z mi := mq_gw 834 mi (by decide +kernel) (by decide +kernel)
theorem gw_835 (mi : Nat) : (Jvm.Cond.fieldLink "PartitionKernelModel" (102 : Nat) "PartitionKernelModel" "errorProcess" "[I") ∈ mq_ws pg_Z mi := mq_gw 835 mi (by decide +kernel) (by decide +kernel)
theorem gw_836 (mi : Nat) : (Jvm.Cond.fieldLink "PartitionKernelModel" (105 : Nat) "PartitionKernelModel" "errorKind" "[I") ∈ mq_ws pg_Z mi := mq_gw 836 mi (by decide +kernel) (by decide +kernel)
theorem gw_837 (mi : Nat) : (Jvm.Cond.fieldLink "PartitionKernelModel" (168 : Nat) "PartitionKernelModel" "next" "I") ∈ mq_ws pg_Z mi := mq_gw 837 mi (by decide +kernel) (by decide +kernel)
theorem gw_838 (mi : Nat) : (Jvm.Cond.fieldLink "PartitionKernelModel" (140 : Nat) "PartitionKernelModel" "answer" "I") ∈ mq_ws pg_Z mi := mq_gw 838 mi (by decide +kernel) (by decide +kernel)
theorem gw_839 (mi : Nat) : (Jvm.Cond.fieldLink "PartitionKernelModel" (143 : Nat) "PartitionKernelModel" "sets" "Z") ∈ mq_ws pg_Z mi := mq_gw 839 mi (by decide +kernel) (by decide +kernel)
theorem gw_840 (mi : Nat) : (Jvm.Cond.lays "PartitionKernelModel" "PartitionKernelModel" "thrown" "I") ∈ mq_ws pg_Z mi := mq_gw 840 mi (by decide +kernel) (by decide +kernel)
theorem gw_842 (mi : Nat) : (Jvm.Cond.lays "PartitionKernelModel" "PartitionKernelModel" "begun" "Z") ∈ mq_ws pg_Z mi := mq_gw 842 mi (by decide +kernel) (by decide +kernel)
theorem gw_844 (mi : Nat) : (Jvm.Cond.lays "PartitionKernelModel" "PartitionKernelModel" "time" "I") ∈ mq_ws pg_Z mi := mq_gw 844 mi (by decide +kernel) (by decide +kernel)
theorem gw_846 (mi : Nat) : (Jvm.Cond.lays "PartitionKernelModel" "PartitionKernelModel" "windows" "I") ∈ mq_ws pg_Z mi := mq_gw 846 mi (by decide +kernel) (by decide +kernel)
theorem gw_848 (mi : Nat) : (Jvm.Cond.lays "PartitionKernelModel" "PartitionKernelModel" "frame" "I") ∈ mq_ws pg_Z mi := mq_gw 848 mi (by decide +kernel) (by decide +kernel)
theorem gw_850 (mi : Nat) : (Jvm.Cond.lays "PartitionKernelModel" "PartitionKernelModel" "done" "I") ∈ mq_ws pg_Z mi := mq_gw 850 mi (by decide +kernel) (by decide +kernel)
theorem gw_852 (mi : Nat) : (Jvm.Cond.laysFinal "PartitionKernelModel" "PartitionKernelModel" "windowOf" "[I") ∈ mq_ws pg_Z mi := mq_gw 852 mi (by decide +kernel) (by decide +kernel)
theorem gw_854 (mi : Nat) : (Jvm.Cond.laysFinal "PartitionKernelModel" "PartitionKernelModel" "ticks" "[I") ∈ mq_ws pg_Z mi := mq_gw 854 mi (by decide +kernel) (by decide +kernel)
theorem gw_856 (mi : Nat) : (Jvm.Cond.laysFinal "PartitionKernelModel" "PartitionKernelModel" "memory" "[B") ∈ mq_ws pg_Z mi := mq_gw 856 mi (by decide +kernel) (by decide +kernel)
theorem gw_858 (mi : Nat) : (Jvm.Cond.laysFinal "PartitionKernelModel" "PartitionKernelModel" "actions" "[I") ∈ mq_ws pg_Z mi := mq_gw 858 mi (by decide +kernel) (by decide +kernel)
theorem gw_860 (mi : Nat) : (Jvm.Cond.laysFinal "PartitionKernelModel" "PartitionKernelModel" "semaphores" "[I") ∈ mq_ws pg_Z mi := mq_gw 860 mi (by decide +kernel) (by decide +kernel)
theorem gw_862 (mi : Nat) : (Jvm.Cond.laysFinal "PartitionKernelModel" "PartitionKernelModel" "processes" "[I") ∈ mq_ws pg_Z mi := mq_gw 862 mi (by decide +kernel) (by decide +kernel)
theorem gw_864 (mi : Nat) : (Jvm.Cond.laysFinal "PartitionKernelModel" "PartitionKernelModel" "again" "[I") ∈ mq_ws pg_Z mi := mq_gw 864 mi (by decide +kernel) (by decide +kernel)
theorem gw_866 (mi : Nat) : (Jvm.Cond.laysFinal "PartitionKernelModel" "PartitionKernelModel" "stopped" "[Z") ∈ mq_ws pg_Z mi := mq_gw 866 mi (by decide +kernel) (by decide +kernel)
theorem gw_868 (mi : Nat) : (Jvm.Cond.laysFinal "PartitionKernelModel" "PartitionKernelModel" "entry" "[I") ∈ mq_ws pg_Z mi := mq_gw 868 mi (by decide +kernel) (by decide +kernel)
theorem gw_870 (mi : Nat) : (Jvm.Cond.laysFinal "PartitionKernelModel" "PartitionKernelModel" "priority" "[I") ∈ mq_ws pg_Z mi := mq_gw 870 mi (by decide +kernel) (by decide +kernel)
theorem gw_872 (mi : Nat) : (Jvm.Cond.laysFinal "PartitionKernelModel" "PartitionKernelModel" "period" "[I") ∈ mq_ws pg_Z mi := mq_gw 872 mi (by decide +kernel) (by decide +kernel)
theorem gw_874 (mi : Nat) : (Jvm.Cond.laysFinal "PartitionKernelModel" "PartitionKernelModel" "deadline" "[I") ∈ mq_ws pg_Z mi := mq_gw 874 mi (by decide +kernel) (by decide +kernel)
theorem gw_876 (mi : Nat) : (Jvm.Cond.laysFinal "PartitionKernelModel" "PartitionKernelModel" "pc" "[I") ∈ mq_ws pg_Z mi := mq_gw 876 mi (by decide +kernel) (by decide +kernel)
theorem gw_878 (mi : Nat) : (Jvm.Cond.laysFinal "PartitionKernelModel" "PartitionKernelModel" "state" "[I") ∈ mq_ws pg_Z mi := mq_gw 878 mi (by decide +kernel) (by decide +kernel)
theorem gw_880 (mi : Nat) : (Jvm.Cond.laysFinal "PartitionKernelModel" "PartitionKernelModel" "due" "[I") ∈ mq_ws pg_Z mi := mq_gw 880 mi (by decide +kernel) (by decide +kernel)
theorem gw_882 (mi : Nat) : (Jvm.Cond.laysFinal "PartitionKernelModel" "PartitionKernelModel" "wait" "[I") ∈ mq_ws pg_Z mi := mq_gw 882 mi (by decide +kernel) (by decide +kernel)
theorem gw_884 (mi : Nat) : (Jvm.Cond.laysFinal "PartitionKernelModel" "PartitionKernelModel" "semaphore" "[I") ∈ mq_ws pg_Z mi := mq_gw 884 mi (by decide +kernel) (by decide +kernel)
theorem gw_886 (mi : Nat) : (Jvm.Cond.laysFinal "PartitionKernelModel" "PartitionKernelModel" "turn" "[I") ∈ mq_ws pg_Z mi := mq_gw 886 mi (by decide +kernel) (by decide +kernel)
theorem gw_888 (mi : Nat) : (Jvm.Cond.laysFinal "PartitionKernelModel" "PartitionKernelModel" "did" "[I") ∈ mq_ws pg_Z mi := mq_gw 888 mi (by decide +kernel) (by decide +kernel)
theorem gw_890 (mi : Nat) : (Jvm.Cond.laysFinal "PartitionKernelModel" "PartitionKernelModel" "release" "[I") ∈ mq_ws pg_Z mi := mq_gw 890 mi (by decide +kernel) (by decide +kernel)
theorem gw_892 (mi : Nat) : (Jvm.Cond.laysFinal "PartitionKernelModel" "PartitionKernelModel" "registers" "[I") ∈ mq_ws pg_Z mi := mq_gw 892 mi (by decide +kernel) (by decide +kernel)
theorem gw_894 (mi : Nat) : (Jvm.Cond.lays "PartitionKernelModel" "PartitionKernelModel" "turns" "I") ∈ mq_ws pg_Z mi := mq_gw 894 mi (by decide +kernel) (by decide +kernel)
theorem gw_896 (mi : Nat) : (Jvm.Cond.lays "PartitionKernelModel" "PartitionKernelModel" "channels" "I") ∈ mq_ws pg_Z mi := mq_gw 896 mi (by decide +kernel) (by decide +kernel)
theorem gw_898 (mi : Nat) : (Jvm.Cond.laysFinal "PartitionKernelModel" "PartitionKernelModel" "queue" "[Z") ∈ mq_ws pg_Z mi := mq_gw 898 mi (by decide +kernel) (by decide +kernel)
theorem gw_900 (mi : Nat) : (Jvm.Cond.laysFinal "PartitionKernelModel" "PartitionKernelModel" "from" "[I") ∈ mq_ws pg_Z mi := mq_gw 900 mi (by decide +kernel) (by decide +kernel)
theorem gw_902 (mi : Nat) : (Jvm.Cond.laysFinal "PartitionKernelModel" "PartitionKernelModel" "to" "[I") ∈ mq_ws pg_Z mi := mq_gw 902 mi (by decide +kernel) (by decide +kernel)
theorem gw_904 (mi : Nat) : (Jvm.Cond.laysFinal "PartitionKernelModel" "PartitionKernelModel" "limit" "[I") ∈ mq_ws pg_Z mi := mq_gw 904 mi (by decide +kernel) (by decide +kernel)
theorem gw_906 (mi : Nat) : (Jvm.Cond.laysFinal "PartitionKernelModel" "PartitionKernelModel" "length" "[I") ∈ mq_ws pg_Z mi := mq_gw 906 mi (by decide +kernel) (by decide +kernel)
theorem gw_908 (mi : Nat) : (Jvm.Cond.laysFinal "PartitionKernelModel" "PartitionKernelModel" "sent" "[I") ∈ mq_ws pg_Z mi := mq_gw 908 mi (by decide +kernel) (by decide +kernel)
theorem gw_910 (mi : Nat) : (Jvm.Cond.laysFinal "PartitionKernelModel" "PartitionKernelModel" "words" "[I") ∈ mq_ws pg_Z mi := mq_gw 910 mi (by decide +kernel) (by decide +kernel)
theorem gw_912 (mi : Nat) : (Jvm.Cond.lays "PartitionKernelModel" "PartitionKernelModel" "errors" "I") ∈ mq_ws pg_Z mi := mq_gw 912 mi (by decide +kernel) (by decide +kernel)
theorem gw_914 (mi : Nat) : (Jvm.Cond.laysFinal "PartitionKernelModel" "PartitionKernelModel" "errorTime" "[I") ∈ mq_ws pg_Z mi := mq_gw 914 mi (by decide +kernel) (by decide +kernel)
theorem gw_916 (mi : Nat) : (Jvm.Cond.laysFinal "PartitionKernelModel" "PartitionKernelModel" "errorPart" "[I") ∈ mq_ws pg_Z mi := mq_gw 916 mi (by decide +kernel) (by decide +kernel)
theorem gw_918 (mi : Nat) : (Jvm.Cond.laysFinal "PartitionKernelModel" "PartitionKernelModel" "errorProcess" "[I") ∈ mq_ws pg_Z mi := mq_gw 918 mi (by decide +kernel) (by decide +kernel)
theorem gw_920 (mi : Nat) : (Jvm.Cond.laysFinal "PartitionKernelModel" "PartitionKernelModel" "errorKind" "[I") ∈ mq_ws pg_Z mi := mq_gw 920 mi (by decide +kernel) (by decide +kernel)
theorem gw_922 (mi : Nat) : (Jvm.Cond.lays "PartitionKernelModel" "PartitionKernelModel" "next" "I") ∈ mq_ws pg_Z mi := mq_gw 922 mi (by decide +kernel) (by decide +kernel)
theorem gw_924 (mi : Nat) : (Jvm.Cond.lays "PartitionKernelModel" "PartitionKernelModel" "answer" "I") ∈ mq_ws pg_Z mi := mq_gw 924 mi (by decide +kernel) (by decide +kernel)
theorem gw_926 (mi : Nat) : (Jvm.Cond.lays "PartitionKernelModel" "PartitionKernelModel" "sets" "Z") ∈ mq_ws pg_Z mi := mq_gw 926 mi (by decide +kernel) (by decide +kernel)
theorem gw_929 (mi : Nat) : (Jvm.Cond.arrayClass Jvm.ClassFile.FieldType.boolean) ∈ mq_ws pg_Z mi := mq_gw 929 mi (by decide +kernel) (by decide +kernel)
theorem gw_938 (mi : Nat) : (Jvm.Cond.methodLink "PartitionKernelModel" (134 : Nat) ({ cls := "PartitionKernelModel", name := "in", desc := "(II)Z" } : Jvm.MethodName)) ∈ mq_ws pg_Z mi := mq_gw 938 mi (by decide +kernel) (by decide +kernel)
theorem gw_939 (mi : Nat) : (Jvm.Cond.static ({ cls := "PartitionKernelModel", name := "in", desc := "(II)Z" } : Jvm.MethodName)) ∈ mq_ws pg_Z mi := mq_gw 939 mi (by decide +kernel) (by decide +kernel)
theorem gw_940 (mi : Nat) : (Jvm.Cond.code ({ cls := "PartitionKernelModel", name := "in", desc := "(II)Z" } : Jvm.MethodName) prog_10_method_3_code (2 : Nat) (Option.some Jvm.ClassFile.FieldType.boolean)) ∈ mq_ws pg_Z mi := mq_gw 940 mi (by decide +kernel) (by decide +kernel)
theorem gw_945 (mi : Nat) : (Jvm.Cond.constant "PartitionKernelModel" (200 : Nat) (100001 : Int32)) ∈ mq_ws pg_Z mi := mq_gw 945 mi (by decide +kernel) (by decide +kernel)
theorem gw_958 (mi : Nat) : (Jvm.Cond.methodLink "PartitionKernelModel" (147 : Nat) ({ cls := "PartitionKernelModel", name := "isPlace", desc := "(II)Z" } : Jvm.MethodName)) ∈ mq_ws pg_Z mi := mq_gw 958 mi (by decide +kernel) (by decide +kernel)
theorem gw_959 (mi : Nat) : (Jvm.Cond.static ({ cls := "PartitionKernelModel", name := "isPlace", desc := "(II)Z" } : Jvm.MethodName)) ∈ mq_ws pg_Z mi := mq_gw 959 mi (by decide +kernel) (by decide +kernel)
theorem gw_960 (mi : Nat) : (Jvm.Cond.code ({ cls := "PartitionKernelModel", name := "isPlace", desc := "(II)Z" } : Jvm.MethodName) prog_10_method_9_code (2 : Nat) (Option.some Jvm.ClassFile.FieldType.boolean)) ∈ mq_ws pg_Z mi := mq_gw 960 mi (by decide +kernel) (by decide +kernel)
theorem gw_961 (mi : Nat) : (Jvm.Cond.methodLink "PartitionKernelModel" (158 : Nat) ({ cls := "PartitionKernelModel", name := "store", desc := "(IIII)V" } : Jvm.MethodName)) ∈ mq_ws pg_Z mi := mq_gw 961 mi (by decide +kernel) (by decide +kernel)
theorem gw_963 (mi : Nat) : (Jvm.Cond.instanceMethod ({ cls := "PartitionKernelModel", name := "store", desc := "(IIII)V" } : Jvm.MethodName)) ∈ mq_ws pg_Z mi := mq_gw 963 mi (by decide +kernel) (by decide +kernel)
theorem gw_964 (mi : Nat) : (Jvm.Cond.code ({ cls := "PartitionKernelModel", name := "store", desc := "(IIII)V" } : Jvm.MethodName) prog_10_method_11_code (6 : Nat) (Option.none : Option Jvm.ClassFile.FieldType)) ∈ mq_ws pg_Z mi := mq_gw 964 mi (by decide +kernel) (by decide +kernel)
theorem gw_969 (mi : Nat) : (Jvm.Cond.methodLink "PartitionKernelModel" (122 : Nat) ({ cls := "PartitionKernelModel", name := "start", desc := "(I)V" } : Jvm.MethodName)) ∈ mq_ws pg_Z mi := mq_gw 969 mi (by decide +kernel) (by decide +kernel)
theorem gw_971 (mi : Nat) : (Jvm.Cond.instanceMethod ({ cls := "PartitionKernelModel", name := "start", desc := "(I)V" } : Jvm.MethodName)) ∈ mq_ws pg_Z mi := mq_gw 971 mi (by decide +kernel) (by decide +kernel)
theorem gw_972 (mi : Nat) : (Jvm.Cond.code ({ cls := "PartitionKernelModel", name := "start", desc := "(I)V" } : Jvm.MethodName) prog_10_method_5_code (3 : Nat) (Option.none : Option Jvm.ClassFile.FieldType)) ∈ mq_ws pg_Z mi := mq_gw 972 mi (by decide +kernel) (by decide +kernel)
theorem gw_973 (mi : Nat) : (Jvm.Cond.methodLink "PartitionKernelModel" (118 : Nat) ({ cls := "PartitionKernelModel", name := "ready", desc := "(I)V" } : Jvm.MethodName)) ∈ mq_ws pg_Z mi := mq_gw 973 mi (by decide +kernel) (by decide +kernel)
theorem gw_975 (mi : Nat) : (Jvm.Cond.instanceMethod ({ cls := "PartitionKernelModel", name := "ready", desc := "(I)V" } : Jvm.MethodName)) ∈ mq_ws pg_Z mi := mq_gw 975 mi (by decide +kernel) (by decide +kernel)
theorem gw_976 (mi : Nat) : (Jvm.Cond.code ({ cls := "PartitionKernelModel", name := "ready", desc := "(I)V" } : Jvm.MethodName) prog_10_method_4_code (2 : Nat) (Option.none : Option Jvm.ClassFile.FieldType)) ∈ mq_ws pg_Z mi := mq_gw 976 mi (by decide +kernel) (by decide +kernel)
theorem gw_981 (mi : Nat) : (Jvm.Cond.methodLink "PartitionKernelModel" (259 : Nat) ({ cls := "PartitionKernelModel", name := "tick", desc := "()I" } : Jvm.MethodName)) ∈ mq_ws pg_Z mi := mq_gw 981 mi (by decide +kernel) (by decide +kernel)
theorem gw_983 (mi : Nat) : (Jvm.Cond.instanceMethod ({ cls := "PartitionKernelModel", name := "tick", desc := "()I" } : Jvm.MethodName)) ∈ mq_ws pg_Z mi := mq_gw 983 mi (by decide +kernel) (by decide +kernel)
theorem gw_984 (mi : Nat) : (Jvm.Cond.code ({ cls := "PartitionKernelModel", name := "tick", desc := "()I" } : Jvm.MethodName) prog_10_method_37_code (6 : Nat) (Option.some Jvm.ClassFile.FieldType.int)) ∈ mq_ws pg_Z mi := mq_gw 984 mi (by decide +kernel) (by decide +kernel)
theorem gw_985 (mi : Nat) : (Jvm.Cond.methodLink "PartitionKernelModel" (233 : Nat) ({ cls := "PartitionKernelModel", name := "windowNow", desc := "()I" } : Jvm.MethodName)) ∈ mq_ws pg_Z mi := mq_gw 985 mi (by decide +kernel) (by decide +kernel)
theorem gw_987 (mi : Nat) : (Jvm.Cond.instanceMethod ({ cls := "PartitionKernelModel", name := "windowNow", desc := "()I" } : Jvm.MethodName)) ∈ mq_ws pg_Z mi := mq_gw 987 mi (by decide +kernel) (by decide +kernel)
theorem gw_988 (mi : Nat) : (Jvm.Cond.code ({ cls := "PartitionKernelModel", name := "windowNow", desc := "()I" } : Jvm.MethodName) prog_10_method_33_code (3 : Nat) (Option.some Jvm.ClassFile.FieldType.int)) ∈ mq_ws pg_Z mi := mq_gw 988 mi (by decide +kernel) (by decide +kernel)
theorem gw_989 (mi : Nat) : (Jvm.Cond.methodLink "PartitionKernelModel" (237 : Nat) ({ cls := "PartitionKernelModel", name := "wake", desc := "(I)V" } : Jvm.MethodName)) ∈ mq_ws pg_Z mi := mq_gw 989 mi (by decide +kernel) (by decide +kernel)
theorem gw_991 (mi : Nat) : (Jvm.Cond.instanceMethod ({ cls := "PartitionKernelModel", name := "wake", desc := "(I)V" } : Jvm.MethodName)) ∈ mq_ws pg_Z mi := mq_gw 991 mi (by decide +kernel) (by decide +kernel)
theorem gw_992 (mi : Nat) : (Jvm.Cond.code ({ cls := "PartitionKernelModel", name := "wake", desc := "(I)V" } : Jvm.MethodName) prog_10_method_34_code (6 : Nat) (Option.none : Option Jvm.ClassFile.FieldType)) ∈ mq_ws pg_Z mi := mq_gw 992 mi (by decide +kernel) (by decide +kernel)
theorem gw_993 (mi : Nat) : (Jvm.Cond.methodLink "PartitionKernelModel" (240 : Nat) ({ cls := "PartitionKernelModel", name := "isLate", desc := "(I)Z" } : Jvm.MethodName)) ∈ mq_ws pg_Z mi := mq_gw 993 mi (by decide +kernel) (by decide +kernel)
theorem gw_995 (mi : Nat) : (Jvm.Cond.instanceMethod ({ cls := "PartitionKernelModel", name := "isLate", desc := "(I)Z" } : Jvm.MethodName)) ∈ mq_ws pg_Z mi := mq_gw 995 mi (by decide +kernel) (by decide +kernel)
theorem gw_996 (mi : Nat) : (Jvm.Cond.code ({ cls := "PartitionKernelModel", name := "isLate", desc := "(I)Z" } : Jvm.MethodName) prog_10_method_35_code (4 : Nat) (Option.some Jvm.ClassFile.FieldType.boolean)) ∈ mq_ws pg_Z mi := mq_gw 996 mi (by decide +kernel) (by decide +kernel)
theorem gw_997 (mi : Nat) : (Jvm.Cond.methodLink "PartitionKernelModel" (230 : Nat) ({ cls := "PartitionKernelModel", name := "fails", desc := "(III)Z" } : Jvm.MethodName)) ∈ mq_ws pg_Z mi := mq_gw 997 mi (by decide +kernel) (by decide +kernel)
theorem gw_999 (mi : Nat) : (Jvm.Cond.instanceMethod ({ cls := "PartitionKernelModel", name := "fails", desc := "(III)Z" } : Jvm.MethodName)) ∈ mq_ws pg_Z mi := mq_gw 999 mi (by decide +kernel) (by decide +kernel)
theorem gw_1000 (mi : Nat) : (Jvm.Cond.code ({ cls := "PartitionKernelModel", name := "fails", desc := "(III)Z" } : Jvm.MethodName) prog_10_method_8_code (6 : Nat) (Option.some Jvm.ClassFile.FieldType.boolean)) ∈ mq_ws pg_Z mi := mq_gw 1000 mi (by decide +kernel) (by decide +kernel)
theorem gw_1001 (mi : Nat) : (Jvm.Cond.methodLink "PartitionKernelModel" (128 : Nat) ({ cls := "PartitionKernelModel", name := "sleep", desc := "(I)V" } : Jvm.MethodName)) ∈ mq_ws pg_Z mi := mq_gw 1001 mi (by decide +kernel) (by decide +kernel)
theorem gw_1003 (mi : Nat) : (Jvm.Cond.instanceMethod ({ cls := "PartitionKernelModel", name := "sleep", desc := "(I)V" } : Jvm.MethodName)) ∈ mq_ws pg_Z mi := mq_gw 1003 mi (by decide +kernel) (by decide +kernel)
theorem gw_1004 (mi : Nat) : (Jvm.Cond.code ({ cls := "PartitionKernelModel", name := "sleep", desc := "(I)V" } : Jvm.MethodName) prog_10_method_6_code (2 : Nat) (Option.none : Option Jvm.ClassFile.FieldType)) ∈ mq_ws pg_Z mi := mq_gw 1004 mi (by decide +kernel) (by decide +kernel)
theorem gw_1005 (mi : Nat) : (Jvm.Cond.methodLink "PartitionKernelModel" (131 : Nat) ({ cls := "PartitionKernelModel", name := "restart", desc := "(I)V" } : Jvm.MethodName)) ∈ mq_ws pg_Z mi := mq_gw 1005 mi (by decide +kernel) (by decide +kernel)
theorem gw_1007 (mi : Nat) : (Jvm.Cond.instanceMethod ({ cls := "PartitionKernelModel", name := "restart", desc := "(I)V" } : Jvm.MethodName)) ∈ mq_ws pg_Z mi := mq_gw 1007 mi (by decide +kernel) (by decide +kernel)
theorem gw_1008 (mi : Nat) : (Jvm.Cond.code ({ cls := "PartitionKernelModel", name := "restart", desc := "(I)V" } : Jvm.MethodName) prog_10_method_7_code (3 : Nat) (Option.none : Option Jvm.ClassFile.FieldType)) ∈ mq_ws pg_Z mi := mq_gw 1008 mi (by decide +kernel) (by decide +kernel)
theorem gw_1009 (mi : Nat) : (Jvm.Cond.methodLink "PartitionKernelModel" (244 : Nat) ({ cls := "PartitionKernelModel", name := "first", desc := "(I)I" } : Jvm.MethodName)) ∈ mq_ws pg_Z mi := mq_gw 1009 mi (by decide +kernel) (by decide +kernel)
theorem gw_1011 (mi : Nat) : (Jvm.Cond.instanceMethod ({ cls := "PartitionKernelModel", name := "first", desc := "(I)I" } : Jvm.MethodName)) ∈ mq_ws pg_Z mi := mq_gw 1011 mi (by decide +kernel) (by decide +kernel)
theorem gw_1012 (mi : Nat) : (Jvm.Cond.code ({ cls := "PartitionKernelModel", name := "first", desc := "(I)I" } : Jvm.MethodName) prog_10_method_36_code (5 : Nat) (Option.some Jvm.ClassFile.FieldType.int)) ∈ mq_ws pg_Z mi := mq_gw 1012 mi (by decide +kernel) (by decide +kernel)
theorem gw_1013 (mi : Nat) : (Jvm.Cond.methodLink "PartitionKernelModel" (150 : Nat) ({ cls := "PartitionKernelModel", name := "load", desc := "(III)I" } : Jvm.MethodName)) ∈ mq_ws pg_Z mi := mq_gw 1013 mi (by decide +kernel) (by decide +kernel)
theorem gw_1015 (mi : Nat) : (Jvm.Cond.instanceMethod ({ cls := "PartitionKernelModel", name := "load", desc := "(III)I" } : Jvm.MethodName)) ∈ mq_ws pg_Z mi := mq_gw 1015 mi (by decide +kernel) (by decide +kernel)
theorem gw_1016 (mi : Nat) : (Jvm.Cond.code ({ cls := "PartitionKernelModel", name := "load", desc := "(III)I" } : Jvm.MethodName) prog_10_method_10_code (6 : Nat) (Option.some Jvm.ClassFile.FieldType.int)) ∈ mq_ws pg_Z mi := mq_gw 1016 mi (by decide +kernel) (by decide +kernel)
theorem gw_1017 (mi : Nat) : (Jvm.Cond.methodLink "PartitionKernelModel" (250 : Nat) ({ cls := "PartitionKernelModel", name := "instruct", desc := "(II)I" } : Jvm.MethodName)) ∈ mq_ws pg_Z mi := mq_gw 1017 mi (by decide +kernel) (by decide +kernel)
theorem gw_1019 (mi : Nat) : (Jvm.Cond.instanceMethod ({ cls := "PartitionKernelModel", name := "instruct", desc := "(II)I" } : Jvm.MethodName)) ∈ mq_ws pg_Z mi := mq_gw 1019 mi (by decide +kernel) (by decide +kernel)
theorem gw_1020 (mi : Nat) : (Jvm.Cond.code ({ cls := "PartitionKernelModel", name := "instruct", desc := "(II)I" } : Jvm.MethodName) prog_10_method_21_code (6 : Nat) (Option.some Jvm.ClassFile.FieldType.int)) ∈ mq_ws pg_Z mi := mq_gw 1020 mi (by decide +kernel) (by decide +kernel)
theorem gw_1021 (mi : Nat) : (Jvm.Cond.methodLink "PartitionKernelModel" (165 : Nat) ({ cls := "PartitionKernelModel", name := "bits", desc := "(III)I" } : Jvm.MethodName)) ∈ mq_ws pg_Z mi := mq_gw 1021 mi (by decide +kernel) (by decide +kernel)
theorem gw_1022 (mi : Nat) : (Jvm.Cond.static ({ cls := "PartitionKernelModel", name := "bits", desc := "(III)I" } : Jvm.MethodName)) ∈ mq_ws pg_Z mi := mq_gw 1022 mi (by decide +kernel) (by decide +kernel)
theorem gw_1023 (mi : Nat) : (Jvm.Cond.code ({ cls := "PartitionKernelModel", name := "bits", desc := "(III)I" } : Jvm.MethodName) prog_10_method_12_code (3 : Nat) (Option.some Jvm.ClassFile.FieldType.int)) ∈ mq_ws pg_Z mi := mq_gw 1023 mi (by decide +kernel) (by decide +kernel)
theorem gw_1024 (mi : Nat) : (Jvm.Cond.methodLink "PartitionKernelModel" (154 : Nat) ({ cls := "PartitionKernelModel", name := "give", desc := "(I)I" } : Jvm.MethodName)) ∈ mq_ws pg_Z mi := mq_gw 1024 mi (by decide +kernel) (by decide +kernel)
theorem gw_1026 (mi : Nat) : (Jvm.Cond.instanceMethod ({ cls := "PartitionKernelModel", name := "give", desc := "(I)I" } : Jvm.MethodName)) ∈ mq_ws pg_Z mi := mq_gw 1026 mi (by decide +kernel) (by decide +kernel)
theorem gw_1027 (mi : Nat) : (Jvm.Cond.code ({ cls := "PartitionKernelModel", name := "give", desc := "(I)I" } : Jvm.MethodName) prog_10_method_14_code (2 : Nat) (Option.some Jvm.ClassFile.FieldType.int)) ∈ mq_ws pg_Z mi := mq_gw 1027 mi (by decide +kernel) (by decide +kernel)
theorem gw_1028 (mi : Nat) : (Jvm.Cond.methodLink "PartitionKernelModel" (179 : Nat) ({ cls := "PartitionKernelModel", name := "jump", desc := "(III)I" } : Jvm.MethodName)) ∈ mq_ws pg_Z mi := mq_gw 1028 mi (by decide +kernel) (by decide +kernel)
theorem gw_1030 (mi : Nat) : (Jvm.Cond.instanceMethod ({ cls := "PartitionKernelModel", name := "jump", desc := "(III)I" } : Jvm.MethodName)) ∈ mq_ws pg_Z mi := mq_gw 1030 mi (by decide +kernel) (by decide +kernel)
theorem gw_1031 (mi : Nat) : (Jvm.Cond.code ({ cls := "PartitionKernelModel", name := "jump", desc := "(III)I" } : Jvm.MethodName) prog_10_method_19_code (7 : Nat) (Option.some Jvm.ClassFile.FieldType.int)) ∈ mq_ws pg_Z mi := mq_gw 1031 mi (by decide +kernel) (by decide +kernel)
theorem gw_1032 (mi : Nat) : (Jvm.Cond.methodLink "PartitionKernelModel" (171 : Nat) ({ cls := "PartitionKernelModel", name := "holds", desc := "(III)Z" } : Jvm.MethodName)) ∈ mq_ws pg_Z mi := mq_gw 1032 mi (by decide +kernel) (by decide +kernel)
theorem gw_1033 (mi : Nat) : (Jvm.Cond.static ({ cls := "PartitionKernelModel", name := "holds", desc := "(III)Z" } : Jvm.MethodName)) ∈ mq_ws pg_Z mi := mq_gw 1033 mi (by decide +kernel) (by decide +kernel)
theorem gw_1034 (mi : Nat) : (Jvm.Cond.code ({ cls := "PartitionKernelModel", name := "holds", desc := "(III)Z" } : Jvm.MethodName) prog_10_method_17_code (3 : Nat) (Option.some Jvm.ClassFile.FieldType.boolean)) ∈ mq_ws pg_Z mi := mq_gw 1034 mi (by decide +kernel) (by decide +kernel)
theorem gw_1035 (mi : Nat) : (Jvm.Cond.methodLink "PartitionKernelModel" (162 : Nat) ({ cls := "PartitionKernelModel", name := "isBelow", desc := "(II)Z" } : Jvm.MethodName)) ∈ mq_ws pg_Z mi := mq_gw 1035 mi (by decide +kernel) (by decide +kernel)
theorem gw_1036 (mi : Nat) : (Jvm.Cond.static ({ cls := "PartitionKernelModel", name := "isBelow", desc := "(II)Z" } : Jvm.MethodName)) ∈ mq_ws pg_Z mi := mq_gw 1036 mi (by decide +kernel) (by decide +kernel)
theorem gw_1037 (mi : Nat) : (Jvm.Cond.code ({ cls := "PartitionKernelModel", name := "isBelow", desc := "(II)Z" } : Jvm.MethodName) prog_10_method_13_code (2 : Nat) (Option.some Jvm.ClassFile.FieldType.boolean)) ∈ mq_ws pg_Z mi := mq_gw 1037 mi (by decide +kernel) (by decide +kernel)
theorem gw_1038 (mi : Nat) : (Jvm.Cond.constantLong "PartitionKernelModel" (138 : Nat) (4294967295 : Int64)) ∈ mq_ws pg_Z mi := mq_gw 1038 mi (by decide +kernel) (by decide +kernel)
theorem gw_1039 (mi : Nat) : (Jvm.Cond.methodLink "PartitionKernelModel" (182 : Nat) ({ cls := "PartitionKernelModel", name := "loaded", desc := "(III)I" } : Jvm.MethodName)) ∈ mq_ws pg_Z mi := mq_gw 1039 mi (by decide +kernel) (by decide +kernel)
theorem gw_1041 (mi : Nat) : (Jvm.Cond.instanceMethod ({ cls := "PartitionKernelModel", name := "loaded", desc := "(III)I" } : Jvm.MethodName)) ∈ mq_ws pg_Z mi := mq_gw 1041 mi (by decide +kernel) (by decide +kernel)
theorem gw_1042 (mi : Nat) : (Jvm.Cond.code ({ cls := "PartitionKernelModel", name := "loaded", desc := "(III)I" } : Jvm.MethodName) prog_10_method_15_code (6 : Nat) (Option.some Jvm.ClassFile.FieldType.int)) ∈ mq_ws pg_Z mi := mq_gw 1042 mi (by decide +kernel) (by decide +kernel)
theorem gw_1043 (mi : Nat) : (Jvm.Cond.methodLink "PartitionKernelModel" (185 : Nat) ({ cls := "PartitionKernelModel", name := "stored", desc := "(IIII)I" } : Jvm.MethodName)) ∈ mq_ws pg_Z mi := mq_gw 1043 mi (by decide +kernel) (by decide +kernel)
theorem gw_1045 (mi : Nat) : (Jvm.Cond.instanceMethod ({ cls := "PartitionKernelModel", name := "stored", desc := "(IIII)I" } : Jvm.MethodName)) ∈ mq_ws pg_Z mi := mq_gw 1045 mi (by decide +kernel) (by decide +kernel)
theorem gw_1046 (mi : Nat) : (Jvm.Cond.code ({ cls := "PartitionKernelModel", name := "stored", desc := "(IIII)I" } : Jvm.MethodName) prog_10_method_16_code (5 : Nat) (Option.some Jvm.ClassFile.FieldType.int)) ∈ mq_ws pg_Z mi := mq_gw 1046 mi (by decide +kernel) (by decide +kernel)
theorem gw_1047 (mi : Nat) : (Jvm.Cond.methodLink "PartitionKernelModel" (189 : Nat) ({ cls := "PartitionKernelModel", name := "reckon", desc := "(III)I" } : Jvm.MethodName)) ∈ mq_ws pg_Z mi := mq_gw 1047 mi (by decide +kernel) (by decide +kernel)
theorem gw_1049 (mi : Nat) : (Jvm.Cond.instanceMethod ({ cls := "PartitionKernelModel", name := "reckon", desc := "(III)I" } : Jvm.MethodName)) ∈ mq_ws pg_Z mi := mq_gw 1049 mi (by decide +kernel) (by decide +kernel)
theorem gw_1050 (mi : Nat) : (Jvm.Cond.code ({ cls := "PartitionKernelModel", name := "reckon", desc := "(III)I" } : Jvm.MethodName) prog_10_method_20_code (6 : Nat) (Option.some Jvm.ClassFile.FieldType.int)) ∈ mq_ws pg_Z mi := mq_gw 1050 mi (by decide +kernel) (by decide +kernel)
theorem gw_1051 (mi : Nat) : (Jvm.Cond.methodLink "PartitionKernelModel" (175 : Nat) ({ cls := "PartitionKernelModel", name := "made", desc := "(IIIZ)I" } : Jvm.MethodName)) ∈ mq_ws pg_Z mi := mq_gw 1051 mi (by decide +kernel) (by decide +kernel)
theorem gw_1052 (mi : Nat) : (Jvm.Cond.static ({ cls := "PartitionKernelModel", name := "made", desc := "(IIIZ)I" } : Jvm.MethodName)) ∈ mq_ws pg_Z mi := mq_gw 1052 mi (by decide +kernel) (by decide +kernel)
theorem gw_1053 (mi : Nat) : (Jvm.Cond.code ({ cls := "PartitionKernelModel", name := "made", desc := "(IIIZ)I" } : Jvm.MethodName) prog_10_method_18_code (4 : Nat) (Option.some Jvm.ClassFile.FieldType.int)) ∈ mq_ws pg_Z mi := mq_gw 1053 mi (by decide +kernel) (by decide +kernel)
theorem gw_1054 (mi : Nat) : (Jvm.Cond.methodLink "PartitionKernelModel" (192 : Nat) ({ cls := "PartitionKernelModel", name := "call", desc := "(II)I" } : Jvm.MethodName)) ∈ mq_ws pg_Z mi := mq_gw 1054 mi (by decide +kernel) (by decide +kernel)
theorem gw_1056 (mi : Nat) : (Jvm.Cond.instanceMethod ({ cls := "PartitionKernelModel", name := "call", desc := "(II)I" } : Jvm.MethodName)) ∈ mq_ws pg_Z mi := mq_gw 1056 mi (by decide +kernel) (by decide +kernel)
theorem gw_1057 (mi : Nat) : (Jvm.Cond.code ({ cls := "PartitionKernelModel", name := "call", desc := "(II)I" } : Jvm.MethodName) prog_10_method_32_code (7 : Nat) (Option.some Jvm.ClassFile.FieldType.int)) ∈ mq_ws pg_Z mi := mq_gw 1057 mi (by decide +kernel) (by decide +kernel)
theorem gw_1058 (mi : Nat) : (Jvm.Cond.methodLink "PartitionKernelModel" (204 : Nat) ({ cls := "PartitionKernelModel", name := "periodic", desc := "(I)I" } : Jvm.MethodName)) ∈ mq_ws pg_Z mi := mq_gw 1058 mi (by decide +kernel) (by decide +kernel)
theorem gw_1060 (mi : Nat) : (Jvm.Cond.instanceMethod ({ cls := "PartitionKernelModel", name := "periodic", desc := "(I)I" } : Jvm.MethodName)) ∈ mq_ws pg_Z mi := mq_gw 1060 mi (by decide +kernel) (by decide +kernel)
theorem gw_1061 (mi : Nat) : (Jvm.Cond.code ({ cls := "PartitionKernelModel", name := "periodic", desc := "(I)I" } : Jvm.MethodName) prog_10_method_24_code (2 : Nat) (Option.some Jvm.ClassFile.FieldType.int)) ∈ mq_ws pg_Z mi := mq_gw 1061 mi (by decide +kernel) (by decide +kernel)
theorem gw_1062 (mi : Nat) : (Jvm.Cond.methodLink "PartitionKernelModel" (196 : Nat) ({ cls := "PartitionKernelModel", name := "timed", desc := "(II)V" } : Jvm.MethodName)) ∈ mq_ws pg_Z mi := mq_gw 1062 mi (by decide +kernel) (by decide +kernel)
theorem gw_1064 (mi : Nat) : (Jvm.Cond.instanceMethod ({ cls := "PartitionKernelModel", name := "timed", desc := "(II)V" } : Jvm.MethodName)) ∈ mq_ws pg_Z mi := mq_gw 1064 mi (by decide +kernel) (by decide +kernel)
theorem gw_1065 (mi : Nat) : (Jvm.Cond.code ({ cls := "PartitionKernelModel", name := "timed", desc := "(II)V" } : Jvm.MethodName) prog_10_method_23_code (3 : Nat) (Option.none : Option Jvm.ClassFile.FieldType)) ∈ mq_ws pg_Z mi := mq_gw 1065 mi (by decide +kernel) (by decide +kernel)
theorem gw_1066 (mi : Nat) : (Jvm.Cond.methodLink "PartitionKernelModel" (207 : Nat) ({ cls := "PartitionKernelModel", name := "sleepFor", desc := "(II)I" } : Jvm.MethodName)) ∈ mq_ws pg_Z mi := mq_gw 1066 mi (by decide +kernel) (by decide +kernel)
theorem gw_1068 (mi : Nat) : (Jvm.Cond.instanceMethod ({ cls := "PartitionKernelModel", name := "sleepFor", desc := "(II)I" } : Jvm.MethodName)) ∈ mq_ws pg_Z mi := mq_gw 1068 mi (by decide +kernel) (by decide +kernel)
theorem gw_1069 (mi : Nat) : (Jvm.Cond.code ({ cls := "PartitionKernelModel", name := "sleepFor", desc := "(II)I" } : Jvm.MethodName) prog_10_method_25_code (3 : Nat) (Option.some Jvm.ClassFile.FieldType.int)) ∈ mq_ws pg_Z mi := mq_gw 1069 mi (by decide +kernel) (by decide +kernel)
theorem gw_1070 (mi : Nat) : (Jvm.Cond.methodLink "PartitionKernelModel" (210 : Nat) ({ cls := "PartitionKernelModel", name := "startOther", desc := "(II)I" } : Jvm.MethodName)) ∈ mq_ws pg_Z mi := mq_gw 1070 mi (by decide +kernel) (by decide +kernel)
theorem gw_1072 (mi : Nat) : (Jvm.Cond.instanceMethod ({ cls := "PartitionKernelModel", name := "startOther", desc := "(II)I" } : Jvm.MethodName)) ∈ mq_ws pg_Z mi := mq_gw 1072 mi (by decide +kernel) (by decide +kernel)
theorem gw_1073 (mi : Nat) : (Jvm.Cond.code ({ cls := "PartitionKernelModel", name := "startOther", desc := "(II)I" } : Jvm.MethodName) prog_10_method_26_code (3 : Nat) (Option.some Jvm.ClassFile.FieldType.int)) ∈ mq_ws pg_Z mi := mq_gw 1073 mi (by decide +kernel) (by decide +kernel)
theorem gw_1074 (mi : Nat) : (Jvm.Cond.methodLink "PartitionKernelModel" (213 : Nat) ({ cls := "PartitionKernelModel", name := "rank", desc := "(III)I" } : Jvm.MethodName)) ∈ mq_ws pg_Z mi := mq_gw 1074 mi (by decide +kernel) (by decide +kernel)
theorem gw_1076 (mi : Nat) : (Jvm.Cond.instanceMethod ({ cls := "PartitionKernelModel", name := "rank", desc := "(III)I" } : Jvm.MethodName)) ∈ mq_ws pg_Z mi := mq_gw 1076 mi (by decide +kernel) (by decide +kernel)
theorem gw_1077 (mi : Nat) : (Jvm.Cond.code ({ cls := "PartitionKernelModel", name := "rank", desc := "(III)I" } : Jvm.MethodName) prog_10_method_27_code (4 : Nat) (Option.some Jvm.ClassFile.FieldType.int)) ∈ mq_ws pg_Z mi := mq_gw 1077 mi (by decide +kernel) (by decide +kernel)
theorem gw_1078 (mi : Nat) : (Jvm.Cond.methodLink "PartitionKernelModel" (216 : Nat) ({ cls := "PartitionKernelModel", name := "take", desc := "(III)I" } : Jvm.MethodName)) ∈ mq_ws pg_Z mi := mq_gw 1078 mi (by decide +kernel) (by decide +kernel)
theorem gw_1080 (mi : Nat) : (Jvm.Cond.instanceMethod ({ cls := "PartitionKernelModel", name := "take", desc := "(III)I" } : Jvm.MethodName)) ∈ mq_ws pg_Z mi := mq_gw 1080 mi (by decide +kernel) (by decide +kernel)
theorem gw_1081 (mi : Nat) : (Jvm.Cond.code ({ cls := "PartitionKernelModel", name := "take", desc := "(III)I" } : Jvm.MethodName) prog_10_method_28_code (4 : Nat) (Option.some Jvm.ClassFile.FieldType.int)) ∈ mq_ws pg_Z mi := mq_gw 1081 mi (by decide +kernel) (by decide +kernel)
theorem gw_1082 (mi : Nat) : (Jvm.Cond.methodLink "PartitionKernelModel" (219 : Nat) ({ cls := "PartitionKernelModel", name := "release", desc := "(II)I" } : Jvm.MethodName)) ∈ mq_ws pg_Z mi := mq_gw 1082 mi (by decide +kernel) (by decide +kernel)
theorem gw_1084 (mi : Nat) : (Jvm.Cond.instanceMethod ({ cls := "PartitionKernelModel", name := "release", desc := "(II)I" } : Jvm.MethodName)) ∈ mq_ws pg_Z mi := mq_gw 1084 mi (by decide +kernel) (by decide +kernel)
theorem gw_1085 (mi : Nat) : (Jvm.Cond.code ({ cls := "PartitionKernelModel", name := "release", desc := "(II)I" } : Jvm.MethodName) prog_10_method_29_code (6 : Nat) (Option.some Jvm.ClassFile.FieldType.int)) ∈ mq_ws pg_Z mi := mq_gw 1085 mi (by decide +kernel) (by decide +kernel)
theorem gw_1086 (mi : Nat) : (Jvm.Cond.methodLink "PartitionKernelModel" (221 : Nat) ({ cls := "PartitionKernelModel", name := "send", desc := "(III)I" } : Jvm.MethodName)) ∈ mq_ws pg_Z mi := mq_gw 1086 mi (by decide +kernel) (by decide +kernel)
theorem gw_1088 (mi : Nat) : (Jvm.Cond.instanceMethod ({ cls := "PartitionKernelModel", name := "send", desc := "(III)I" } : Jvm.MethodName)) ∈ mq_ws pg_Z mi := mq_gw 1088 mi (by decide +kernel) (by decide +kernel)
theorem gw_1089 (mi : Nat) : (Jvm.Cond.code ({ cls := "PartitionKernelModel", name := "send", desc := "(III)I" } : Jvm.MethodName) prog_10_method_30_code (4 : Nat) (Option.some Jvm.ClassFile.FieldType.int)) ∈ mq_ws pg_Z mi := mq_gw 1089 mi (by decide +kernel) (by decide +kernel)
theorem gw_1090 (mi : Nat) : (Jvm.Cond.methodLink "PartitionKernelModel" (224 : Nat) ({ cls := "PartitionKernelModel", name := "receive", desc := "(III)I" } : Jvm.MethodName)) ∈ mq_ws pg_Z mi := mq_gw 1090 mi (by decide +kernel) (by decide +kernel)
theorem gw_1092 (mi : Nat) : (Jvm.Cond.instanceMethod ({ cls := "PartitionKernelModel", name := "receive", desc := "(III)I" } : Jvm.MethodName)) ∈ mq_ws pg_Z mi := mq_gw 1092 mi (by decide +kernel) (by decide +kernel)
theorem gw_1093 (mi : Nat) : (Jvm.Cond.code ({ cls := "PartitionKernelModel", name := "receive", desc := "(III)I" } : Jvm.MethodName) prog_10_method_31_code (5 : Nat) (Option.some Jvm.ClassFile.FieldType.int)) ∈ mq_ws pg_Z mi := mq_gw 1093 mi (by decide +kernel) (by decide +kernel)
theorem gw_1102 (mi : Nat) : (Jvm.Cond.methodLink "PartitionKernelModel" (262 : Nat) ({ cls := "PartitionKernelModel", name := "isProcess", desc := "(II)Z" } : Jvm.MethodName)) ∈ mq_ws pg_Z mi := mq_gw 1102 mi (by decide +kernel) (by decide +kernel)
theorem gw_1104 (mi : Nat) : (Jvm.Cond.instanceMethod ({ cls := "PartitionKernelModel", name := "isProcess", desc := "(II)Z" } : Jvm.MethodName)) ∈ mq_ws pg_Z mi := mq_gw 1104 mi (by decide +kernel) (by decide +kernel)
theorem gw_1105 (mi : Nat) : (Jvm.Cond.code ({ cls := "PartitionKernelModel", name := "isProcess", desc := "(II)Z" } : Jvm.MethodName) prog_10_method_46_code (3 : Nat) (Option.some Jvm.ClassFile.FieldType.boolean)) ∈ mq_ws pg_Z mi := mq_gw 1105 mi (by decide +kernel) (by decide +kernel)
theorem gw_641 (mi : Nat) : (Jvm.Cond.code ({ cls := "java/lang/Math", name := "min", desc := "(II)I" } : Jvm.MethodName) prog_15_method_69_code (2 : Nat) (Option.some Jvm.ClassFile.FieldType.int)) ∈ mq_ws pg_Z mi := mq_gw 641 mi (by decide +kernel) (by decide +kernel)
theorem gw_min (mi : Nat) : Jvm.Cond.code Lib.Math.min.name Lib.Math.min.code 2 (some .int) ∈ mq_ws pg_Z mi := gw_641 mi
theorem gw_obj (mi : Nat) : Jvm.Cond.code objectInit ⟨#[0xb1]⟩ 1 none ∈ mq_ws pg_Z mi := gw_68 mi
end
section
/-! Classes, callees, and the words that are held apart. -/
def pg_E (cA : Nat → ClassId) : mEv := (pg_ki, pg_fr, cA)
def pg_tys (cA : Nat → ClassId) : List (ClassId × FieldType) := [(cA 1, .int), (cA 2, .long), (cA 4, .byte), (cA 5, .boolean), (cA 104, .object "PartitionKernel$Partition"), (cA 100, .object "PartitionKernel$Channel"), (cA 105, .object "PartitionKernel$Proc")]
def pg_X (U : State) : Prop := va_AO "PartitionKernel$Partition" U ∧ va_AO "PartitionKernel$Channel" U ∧ va_AO "PartitionKernel$Proc" U ∧ va_Nw (Jvm.Cond.methodLinkNest "PartitionKernel" (23 : Nat) ({ cls := "PartitionKernel$Frame", name := "<init>", desc := "()V" } : Jvm.MethodName) "PartitionKernel") U ∧ va_Nw (Jvm.Cond.methodLinkNest "PartitionKernel" (30 : Nat) ({ cls := "PartitionKernel$ErrorLog", name := "<init>", desc := "()V" } : Jvm.MethodName) "PartitionKernel") U ∧ va_Nw (Jvm.Cond.methodLinkNest "PartitionKernel$Partition" (11 : Nat) ({ cls := "PartitionKernel$Memory", name := "<init>", desc := "()V" } : Jvm.MethodName) "PartitionKernel") U ∧ va_Nw (Jvm.Cond.methodLinkNest "PartitionKernel" (38 : Nat) ({ cls := "PartitionKernel$Channel", name := "<init>", desc := "()V" } : Jvm.MethodName) "PartitionKernel") U ∧ va_Nw (Jvm.Cond.methodLinkNest "PartitionKernel$Partition" (103 : Nat) ({ cls := "PartitionKernel", name := "isSpan", desc := "(I)Z" } : Jvm.MethodName) "PartitionKernel") U ∧ va_Nw (Jvm.Cond.methodLinkNest "PartitionKernel$Partition" (109 : Nat) ({ cls := "PartitionKernel", name := "isPriority", desc := "(I)Z" } : Jvm.MethodName) "PartitionKernel") U
theorem pX_ao4 : ∀ s : State, pg_X s → va_AO "PartitionKernel$Partition" s := fun _ h => h.1
theorem pX_ao5 : ∀ s : State, pg_X s → va_AO "PartitionKernel$Channel" s := fun _ h => h.2.1
theorem pX_ao6 : ∀ s : State, pg_X s → va_AO "PartitionKernel$Proc" s := fun _ h => h.2.2.1
theorem pX_75 : ∀ s : State, pg_X s → va_Nw (Jvm.Cond.methodLinkNest "PartitionKernel" (23 : Nat) ({ cls := "PartitionKernel$Frame", name := "<init>", desc := "()V" } : Jvm.MethodName) "PartitionKernel") s := fun _ h => h.2.2.2.1
theorem pX_99 : ∀ s : State, pg_X s → va_Nw (Jvm.Cond.methodLinkNest "PartitionKernel" (30 : Nat) ({ cls := "PartitionKernel$ErrorLog", name := "<init>", desc := "()V" } : Jvm.MethodName) "PartitionKernel") s := fun _ h => h.2.2.2.2.1
theorem pX_133 : ∀ s : State, pg_X s → va_Nw (Jvm.Cond.methodLinkNest "PartitionKernel$Partition" (11 : Nat) ({ cls := "PartitionKernel$Memory", name := "<init>", desc := "()V" } : Jvm.MethodName) "PartitionKernel") s := fun _ h => h.2.2.2.2.2.1
theorem pX_242 : ∀ s : State, pg_X s → va_Nw (Jvm.Cond.methodLinkNest "PartitionKernel" (38 : Nat) ({ cls := "PartitionKernel$Channel", name := "<init>", desc := "()V" } : Jvm.MethodName) "PartitionKernel") s := fun _ h => h.2.2.2.2.2.2.1
theorem pX_750 : ∀ s : State, pg_X s → va_Nw (Jvm.Cond.methodLinkNest "PartitionKernel$Partition" (103 : Nat) ({ cls := "PartitionKernel", name := "isSpan", desc := "(I)Z" } : Jvm.MethodName) "PartitionKernel") s := fun _ h => h.2.2.2.2.2.2.2.1
theorem pX_760 : ∀ s : State, pg_X s → va_Nw (Jvm.Cond.methodLinkNest "PartitionKernel$Partition" (109 : Nat) ({ cls := "PartitionKernel", name := "isPriority", desc := "(I)Z" } : Jvm.MethodName) "PartitionKernel") s := fun _ h => h.2.2.2.2.2.2.2.2
theorem pX_warm : ∀ u U : State, u.WarmedH U.vm → pg_X u → pg_X U := fun u U hW h => ⟨h.1.moved hW.alike, h.2.1.moved hW.alike, h.2.2.1.moved hW.alike, (pX_75 u h).warmM hW, (pX_99 u h).warmM hW, (pX_133 u h).warmM hW, (pX_242 u h).warmM hW, (pX_750 u h).warmM hW, (pX_760 u h).warmM hW⟩
theorem oku_0 (mi : Nat) : ∀ w ∈ u_ws "PartitionKernel$Channel" pg_T0 8, w ∈ mq_ws pg_Z mi := by
  have key : ∀ j, j < 8 → u_lay "PartitionKernel$Channel" pg_T0 j ∈ mq_ws pg_Z mi := (lt_s (lt_s (lt_s (lt_s (lt_s (lt_s (lt_s (lt_s lt_0 (gw_257 mi)) (gw_259 mi)) (gw_261 mi)) (gw_263 mi)) (gw_265 mi)) (gw_267 mi)) (gw_269 mi)) (gw_271 mi))
  intro w hw
  obtain ⟨j, hj, rfl⟩ := List.mem_map.mp hw
  exact key j (List.mem_range.mp hj)
theorem okc_0 (cA : Nat → ClassId) (mi : Nat) : mq_okc (mq_ws pg_Z mi) pg_cl (pg_E cA) 0 "PartitionKernel$Channel" pg_T0 8 pg_t0 :=
  ⟨rfl, rfl, oku_0 mi, by decide +kernel, by decide +kernel, (by decide +kernel : ∀ j, j < 8 → defaultValue (pg_t0 j) = if pg_fr 0 j then Value.null else Value.int 0)⟩
theorem oku_1 (mi : Nat) : ∀ w ∈ u_ws "PartitionKernel$ErrorLog" pg_T1 7, w ∈ mq_ws pg_Z mi := by
  have key : ∀ j, j < 7 → u_lay "PartitionKernel$ErrorLog" pg_T1 j ∈ mq_ws pg_Z mi := (lt_s (lt_s (lt_s (lt_s (lt_s (lt_s (lt_s lt_0 (gw_111 mi)) (gw_113 mi)) (gw_115 mi)) (gw_117 mi)) (gw_119 mi)) (gw_121 mi)) (gw_123 mi))
  intro w hw
  obtain ⟨j, hj, rfl⟩ := List.mem_map.mp hw
  exact key j (List.mem_range.mp hj)
theorem okc_1 (cA : Nat → ClassId) (mi : Nat) : mq_okc (mq_ws pg_Z mi) pg_cl (pg_E cA) 1 "PartitionKernel$ErrorLog" pg_T1 7 pg_t1 :=
  ⟨rfl, rfl, oku_1 mi, by decide +kernel, by decide +kernel, (by decide +kernel : ∀ j, j < 7 → defaultValue (pg_t1 j) = if pg_fr 1 j then Value.null else Value.int 0)⟩
theorem oku_2 (mi : Nat) : ∀ w ∈ u_ws "PartitionKernel$Frame" pg_T2 5, w ∈ mq_ws pg_Z mi := by
  have key : ∀ j, j < 5 → u_lay "PartitionKernel$Frame" pg_T2 j ∈ mq_ws pg_Z mi := (lt_s (lt_s (lt_s (lt_s (lt_s lt_0 (gw_85 mi)) (gw_87 mi)) (gw_89 mi)) (gw_91 mi)) (gw_93 mi))
  intro w hw
  obtain ⟨j, hj, rfl⟩ := List.mem_map.mp hw
  exact key j (List.mem_range.mp hj)
theorem okc_2 (cA : Nat → ClassId) (mi : Nat) : mq_okc (mq_ws pg_Z mi) pg_cl (pg_E cA) 2 "PartitionKernel$Frame" pg_T2 5 pg_t2 :=
  ⟨rfl, rfl, oku_2 mi, by decide +kernel, by decide +kernel, (by decide +kernel : ∀ j, j < 5 → defaultValue (pg_t2 j) = if pg_fr 2 j then Value.null else Value.int 0)⟩
theorem oku_3 (mi : Nat) : ∀ w ∈ u_ws "PartitionKernel$Memory" pg_T3 1, w ∈ mq_ws pg_Z mi := by
  have key : ∀ j, j < 1 → u_lay "PartitionKernel$Memory" pg_T3 j ∈ mq_ws pg_Z mi := (lt_s lt_0 (gw_138 mi))
  intro w hw
  obtain ⟨j, hj, rfl⟩ := List.mem_map.mp hw
  exact key j (List.mem_range.mp hj)
theorem okc_3 (cA : Nat → ClassId) (mi : Nat) : mq_okc (mq_ws pg_Z mi) pg_cl (pg_E cA) 3 "PartitionKernel$Memory" pg_T3 1 pg_t3 :=
  ⟨rfl, rfl, oku_3 mi, by decide +kernel, by decide +kernel, (by decide +kernel : ∀ j, j < 1 → defaultValue (pg_t3 j) = if pg_fr 3 j then Value.null else Value.int 0)⟩
theorem oku_4 (mi : Nat) : ∀ w ∈ u_ws "PartitionKernel$Partition" pg_T4 9, w ∈ mq_ws pg_Z mi := by
  have key : ∀ j, j < 9 → u_lay "PartitionKernel$Partition" pg_T4 j ∈ mq_ws pg_Z mi := (lt_s (lt_s (lt_s (lt_s (lt_s (lt_s (lt_s (lt_s (lt_s lt_0 (gw_222 mi)) (gw_224 mi)) (gw_226 mi)) (gw_228 mi)) (gw_230 mi)) (gw_232 mi)) (gw_234 mi)) (gw_236 mi)) (gw_238 mi))
  intro w hw
  obtain ⟨j, hj, rfl⟩ := List.mem_map.mp hw
  exact key j (List.mem_range.mp hj)
theorem okc_4 (cA : Nat → ClassId) (mi : Nat) : mq_okc (mq_ws pg_Z mi) pg_cl (pg_E cA) 4 "PartitionKernel$Partition" pg_T4 9 pg_t4 :=
  ⟨rfl, rfl, oku_4 mi, by decide +kernel, by decide +kernel, (by decide +kernel : ∀ j, j < 9 → defaultValue (pg_t4 j) = if pg_fr 4 j then Value.null else Value.int 0)⟩
theorem oku_5 (mi : Nat) : ∀ w ∈ u_ws "PartitionKernel$Proc" pg_T5 14, w ∈ mq_ws pg_Z mi := by
  have key : ∀ j, j < 14 → u_lay "PartitionKernel$Proc" pg_T5 j ∈ mq_ws pg_Z mi := (lt_s (lt_s (lt_s (lt_s (lt_s (lt_s (lt_s (lt_s (lt_s (lt_s (lt_s (lt_s (lt_s (lt_s lt_0 (gw_177 mi)) (gw_179 mi)) (gw_181 mi)) (gw_183 mi)) (gw_185 mi)) (gw_187 mi)) (gw_189 mi)) (gw_191 mi)) (gw_193 mi)) (gw_195 mi)) (gw_197 mi)) (gw_199 mi)) (gw_201 mi)) (gw_203 mi))
  intro w hw
  obtain ⟨j, hj, rfl⟩ := List.mem_map.mp hw
  exact key j (List.mem_range.mp hj)
theorem okc_5 (cA : Nat → ClassId) (mi : Nat) : mq_okc (mq_ws pg_Z mi) pg_cl (pg_E cA) 5 "PartitionKernel$Proc" pg_T5 14 pg_t5 :=
  ⟨rfl, rfl, oku_5 mi, by decide +kernel, by decide +kernel, (by decide +kernel : ∀ j, j < 14 → defaultValue (pg_t5 j) = if pg_fr 5 j then Value.null else Value.int 0)⟩
theorem oku_6 (mi : Nat) : ∀ w ∈ u_ws "PartitionKernel" pg_T6 8, w ∈ mq_ws pg_Z mi := by
  have key : ∀ j, j < 8 → u_lay "PartitionKernel" pg_T6 j ∈ mq_ws pg_Z mi := (lt_s (lt_s (lt_s (lt_s (lt_s (lt_s (lt_s (lt_s lt_0 (gw_282 mi)) (gw_284 mi)) (gw_286 mi)) (gw_288 mi)) (gw_290 mi)) (gw_292 mi)) (gw_294 mi)) (gw_296 mi))
  intro w hw
  obtain ⟨j, hj, rfl⟩ := List.mem_map.mp hw
  exact key j (List.mem_range.mp hj)
theorem okc_6 (cA : Nat → ClassId) (mi : Nat) : mq_okc (mq_ws pg_Z mi) pg_cl (pg_E cA) 6 "PartitionKernel" pg_T6 8 pg_t6 :=
  ⟨rfl, rfl, oku_6 mi, by decide +kernel, by decide +kernel, (by decide +kernel : ∀ j, j < 8 → defaultValue (pg_t6 j) = if pg_fr 6 j then Value.null else Value.int 0)⟩
theorem oku_7 (mi : Nat) : ∀ w ∈ u_ws "PartitionKernelModel" pg_T7 44, w ∈ mq_ws pg_Z mi := by
  have key : ∀ j, j < 44 → u_lay "PartitionKernelModel" pg_T7 j ∈ mq_ws pg_Z mi := (lt_s (lt_s (lt_s (lt_s (lt_s (lt_s (lt_s (lt_s (lt_s (lt_s (lt_s (lt_s (lt_s (lt_s (lt_s (lt_s (lt_s (lt_s (lt_s (lt_s (lt_s (lt_s (lt_s (lt_s (lt_s (lt_s (lt_s (lt_s (lt_s (lt_s (lt_s (lt_s (lt_s (lt_s (lt_s (lt_s (lt_s (lt_s (lt_s (lt_s (lt_s (lt_s (lt_s (lt_s lt_0 (gw_840 mi)) (gw_842 mi)) (gw_844 mi)) (gw_846 mi)) (gw_848 mi)) (gw_850 mi)) (gw_852 mi)) (gw_854 mi)) (gw_856 mi)) (gw_858 mi)) (gw_860 mi)) (gw_862 mi)) (gw_864 mi)) (gw_866 mi)) (gw_868 mi)) (gw_870 mi)) (gw_872 mi)) (gw_874 mi)) (gw_876 mi)) (gw_878 mi)) (gw_880 mi)) (gw_882 mi)) (gw_884 mi)) (gw_886 mi)) (gw_888 mi)) (gw_890 mi)) (gw_892 mi)) (gw_894 mi)) (gw_896 mi)) (gw_898 mi)) (gw_900 mi)) (gw_902 mi)) (gw_904 mi)) (gw_906 mi)) (gw_908 mi)) (gw_910 mi)) (gw_912 mi)) (gw_914 mi)) (gw_916 mi)) (gw_918 mi)) (gw_920 mi)) (gw_922 mi)) (gw_924 mi)) (gw_926 mi))
  intro w hw
  obtain ⟨j, hj, rfl⟩ := List.mem_map.mp hw
  exact key j (List.mem_range.mp hj)
theorem okc_7 (cA : Nat → ClassId) (mi : Nat) : mq_okc (mq_ws pg_Z mi) pg_cl (pg_E cA) 7 "PartitionKernelModel" pg_T7 44 pg_t7 :=
  ⟨rfl, rfl, oku_7 mi, by decide +kernel, by decide +kernel, (by decide +kernel : ∀ j, j < 44 → defaultValue (pg_t7 j) = if pg_fr 7 j then Value.null else Value.int 0)⟩
theorem okg_of {big : List Cond} (a : Nat) (hG : ∀ w ∈ pg_G, w ∈ big) (hc : Jvm.Cond.code (pg_Z.1 a) (pg_Z.2.1 a) (pg_Z.2.2.1 a) (pg_Z.2.2.2.1 a) ∈ pg_G) : GoodIn big (mq_ws pg_Z a) := by
  intro w hw
  rcases List.mem_cons.mp hw with h | h
  · rw [h]; exact ⟨hG _ hc, good_of_word (List.mem_filter.mp hc).2⟩
  · exact ⟨hG _ h, good_of_word (List.mem_filter.mp h).2⟩
theorem okg (a mi : Nat) (hc : Jvm.Cond.code (pg_Z.1 a) (pg_Z.2.1 a) (pg_Z.2.2.1 a) (pg_Z.2.2.2.1 a) ∈ pg_G) : GoodIn (mq_ws pg_Z mi) (mq_ws pg_Z a) := okg_of a (fun _ h => List.mem_cons_of_mem _ h) hc
end
section
/-! The callees: their code words are good ones. -/
theorem gc_1 : Jvm.Cond.code (pg_Z.1 1) (pg_Z.2.1 1) (pg_Z.2.2.1 1) (pg_Z.2.2.2.1 1) ∈ pg_G := List.mem_filter.mpr ⟨List.mem_of_getElem? (i := 244) (by decide +kernel), by decide +kernel⟩
theorem gc_2 : Jvm.Cond.code (pg_Z.1 2) (pg_Z.2.1 2) (pg_Z.2.2.1 2) (pg_Z.2.2.2.1 2) ∈ pg_G := List.mem_filter.mpr ⟨List.mem_of_getElem? (i := 551) (by decide +kernel), by decide +kernel⟩
theorem gc_3 : Jvm.Cond.code (pg_Z.1 3) (pg_Z.2.1 3) (pg_Z.2.2.1 3) (pg_Z.2.2.2.1 3) ∈ pg_G := List.mem_filter.mpr ⟨List.mem_of_getElem? (i := 776) (by decide +kernel), by decide +kernel⟩
theorem gc_4 : Jvm.Cond.code (pg_Z.1 4) (pg_Z.2.1 4) (pg_Z.2.2.1 4) (pg_Z.2.2.2.1 4) ∈ pg_G := List.mem_filter.mpr ⟨List.mem_of_getElem? (i := 785) (by decide +kernel), by decide +kernel⟩
theorem gc_5 : Jvm.Cond.code (pg_Z.1 5) (pg_Z.2.1 5) (pg_Z.2.2.1 5) (pg_Z.2.2.2.1 5) ∈ pg_G := List.mem_filter.mpr ⟨List.mem_of_getElem? (i := 383) (by decide +kernel), by decide +kernel⟩
theorem gc_6 : Jvm.Cond.code (pg_Z.1 6) (pg_Z.2.1 6) (pg_Z.2.2.1 6) (pg_Z.2.2.2.1 6) ∈ pg_G := List.mem_filter.mpr ⟨List.mem_of_getElem? (i := 375) (by decide +kernel), by decide +kernel⟩
theorem gc_7 : Jvm.Cond.code (pg_Z.1 7) (pg_Z.2.1 7) (pg_Z.2.2.1 7) (pg_Z.2.2.2.1 7) ∈ pg_G := List.mem_filter.mpr ⟨List.mem_of_getElem? (i := 387) (by decide +kernel), by decide +kernel⟩
theorem gc_8 : Jvm.Cond.code (pg_Z.1 8) (pg_Z.2.1 8) (pg_Z.2.2.1 8) (pg_Z.2.2.2.1 8) ∈ pg_G := List.mem_filter.mpr ⟨List.mem_of_getElem? (i := 101) (by decide +kernel), by decide +kernel⟩
theorem gc_9 : Jvm.Cond.code (pg_Z.1 9) (pg_Z.2.1 9) (pg_Z.2.2.1 9) (pg_Z.2.2.2.1 9) ∈ pg_G := List.mem_filter.mpr ⟨List.mem_of_getElem? (i := 638) (by decide +kernel), by decide +kernel⟩
theorem gc_10 : Jvm.Cond.code (pg_Z.1 10) (pg_Z.2.1 10) (pg_Z.2.2.1 10) (pg_Z.2.2.2.1 10) ∈ pg_G := List.mem_filter.mpr ⟨List.mem_of_getElem? (i := 395) (by decide +kernel), by decide +kernel⟩
theorem gc_11 : Jvm.Cond.code (pg_Z.1 11) (pg_Z.2.1 11) (pg_Z.2.2.1 11) (pg_Z.2.2.2.1 11) ∈ pg_G := List.mem_filter.mpr ⟨List.mem_of_getElem? (i := 77) (by decide +kernel), by decide +kernel⟩
theorem gc_12 : Jvm.Cond.code (pg_Z.1 12) (pg_Z.2.1 12) (pg_Z.2.2.1 12) (pg_Z.2.2.2.1 12) ∈ pg_G := List.mem_filter.mpr ⟨List.mem_of_getElem? (i := 501) (by decide +kernel), by decide +kernel⟩
theorem gc_13 : Jvm.Cond.code (pg_Z.1 13) (pg_Z.2.1 13) (pg_Z.2.2.1 13) (pg_Z.2.2.2.1 13) ∈ pg_G := List.mem_filter.mpr ⟨List.mem_of_getElem? (i := 403) (by decide +kernel), by decide +kernel⟩
theorem gc_14 : Jvm.Cond.code (pg_Z.1 14) (pg_Z.2.1 14) (pg_Z.2.2.1 14) (pg_Z.2.2.2.1 14) ∈ pg_G := List.mem_filter.mpr ⟨List.mem_of_getElem? (i := 789) (by decide +kernel), by decide +kernel⟩
theorem gc_15 : Jvm.Cond.code (pg_Z.1 15) (pg_Z.2.1 15) (pg_Z.2.2.1 15) (pg_Z.2.2.2.1 15) ∈ pg_G := List.mem_filter.mpr ⟨List.mem_of_getElem? (i := 135) (by decide +kernel), by decide +kernel⟩
theorem gc_16 : Jvm.Cond.code (pg_Z.1 16) (pg_Z.2.1 16) (pg_Z.2.2.1 16) (pg_Z.2.2.2.1 16) ∈ pg_G := List.mem_filter.mpr ⟨List.mem_of_getElem? (i := 316) (by decide +kernel), by decide +kernel⟩
theorem gc_17 : Jvm.Cond.code (pg_Z.1 17) (pg_Z.2.1 17) (pg_Z.2.2.1 17) (pg_Z.2.2.2.1 17) ∈ pg_G := List.mem_filter.mpr ⟨List.mem_of_getElem? (i := 313) (by decide +kernel), by decide +kernel⟩
theorem gc_18 : Jvm.Cond.code (pg_Z.1 18) (pg_Z.2.1 18) (pg_Z.2.2.1 18) (pg_Z.2.2.2.1 18) ∈ pg_G := List.mem_filter.mpr ⟨List.mem_of_getElem? (i := 573) (by decide +kernel), by decide +kernel⟩
theorem gc_19 : Jvm.Cond.code (pg_Z.1 19) (pg_Z.2.1 19) (pg_Z.2.2.1 19) (pg_Z.2.2.2.1 19) ∈ pg_G := List.mem_filter.mpr ⟨List.mem_of_getElem? (i := 702) (by decide +kernel), by decide +kernel⟩
theorem gc_20 : Jvm.Cond.code (pg_Z.1 20) (pg_Z.2.1 20) (pg_Z.2.2.1 20) (pg_Z.2.2.2.1 20) ∈ pg_G := List.mem_filter.mpr ⟨List.mem_of_getElem? (i := 720) (by decide +kernel), by decide +kernel⟩
theorem gc_21 : Jvm.Cond.code (pg_Z.1 21) (pg_Z.2.1 21) (pg_Z.2.2.1 21) (pg_Z.2.2.2.1 21) ∈ pg_G := List.mem_filter.mpr ⟨List.mem_of_getElem? (i := 706) (by decide +kernel), by decide +kernel⟩
theorem gc_22 : Jvm.Cond.code (pg_Z.1 22) (pg_Z.2.1 22) (pg_Z.2.2.1 22) (pg_Z.2.2.2.1 22) ∈ pg_G := List.mem_filter.mpr ⟨List.mem_of_getElem? (i := 129) (by decide +kernel), by decide +kernel⟩
theorem gc_23 : Jvm.Cond.code (pg_Z.1 23) (pg_Z.2.1 23) (pg_Z.2.2.1 23) (pg_Z.2.2.2.1 23) ∈ pg_G := List.mem_filter.mpr ⟨List.mem_of_getElem? (i := 536) (by decide +kernel), by decide +kernel⟩
theorem gc_24 : Jvm.Cond.code (pg_Z.1 24) (pg_Z.2.1 24) (pg_Z.2.2.1 24) (pg_Z.2.2.2.1 24) ∈ pg_G := List.mem_filter.mpr ⟨List.mem_of_getElem? (i := 328) (by decide +kernel), by decide +kernel⟩
theorem gc_25 : Jvm.Cond.code (pg_Z.1 25) (pg_Z.2.1 25) (pg_Z.2.2.1 25) (pg_Z.2.2.2.1 25) ∈ pg_G := List.mem_filter.mpr ⟨List.mem_of_getElem? (i := 645) (by decide +kernel), by decide +kernel⟩
theorem gc_26 : Jvm.Cond.code (pg_Z.1 26) (pg_Z.2.1 26) (pg_Z.2.2.1 26) (pg_Z.2.2.2.1 26) ∈ pg_G := List.mem_filter.mpr ⟨List.mem_of_getElem? (i := 348) (by decide +kernel), by decide +kernel⟩
theorem gc_27 : Jvm.Cond.code (pg_Z.1 27) (pg_Z.2.1 27) (pg_Z.2.2.1 27) (pg_Z.2.2.2.1 27) ∈ pg_G := List.mem_filter.mpr ⟨List.mem_of_getElem? (i := 589) (by decide +kernel), by decide +kernel⟩
theorem gc_28 : Jvm.Cond.code (pg_Z.1 28) (pg_Z.2.1 28) (pg_Z.2.2.1 28) (pg_Z.2.2.2.1 28) ∈ pg_G := List.mem_filter.mpr ⟨List.mem_of_getElem? (i := 585) (by decide +kernel), by decide +kernel⟩
theorem gc_29 : Jvm.Cond.code (pg_Z.1 29) (pg_Z.2.1 29) (pg_Z.2.2.1 29) (pg_Z.2.2.2.1 29) ∈ pg_G := List.mem_filter.mpr ⟨List.mem_of_getElem? (i := 649) (by decide +kernel), by decide +kernel⟩
theorem gc_30 : Jvm.Cond.code (pg_Z.1 30) (pg_Z.2.1 30) (pg_Z.2.2.1 30) (pg_Z.2.2.2.1 30) ∈ pg_G := List.mem_filter.mpr ⟨List.mem_of_getElem? (i := 618) (by decide +kernel), by decide +kernel⟩
theorem gc_31 : Jvm.Cond.code (pg_Z.1 31) (pg_Z.2.1 31) (pg_Z.2.2.1 31) (pg_Z.2.2.2.1 31) ∈ pg_G := List.mem_filter.mpr ⟨List.mem_of_getElem? (i := 356) (by decide +kernel), by decide +kernel⟩
theorem gc_32 : Jvm.Cond.code (pg_Z.1 32) (pg_Z.2.1 32) (pg_Z.2.2.1 32) (pg_Z.2.2.2.1 32) ∈ pg_G := List.mem_filter.mpr ⟨List.mem_of_getElem? (i := 745) (by decide +kernel), by decide +kernel⟩
theorem gc_33 : Jvm.Cond.code (pg_Z.1 33) (pg_Z.2.1 33) (pg_Z.2.2.1 33) (pg_Z.2.2.2.1 33) ∈ pg_G := List.mem_filter.mpr ⟨List.mem_of_getElem? (i := 749) (by decide +kernel), by decide +kernel⟩
theorem gc_34 : Jvm.Cond.code (pg_Z.1 34) (pg_Z.2.1 34) (pg_Z.2.2.1 34) (pg_Z.2.2.2.1 34) ∈ pg_G := List.mem_filter.mpr ⟨List.mem_of_getElem? (i := 754) (by decide +kernel), by decide +kernel⟩
theorem gc_35 : Jvm.Cond.code (pg_Z.1 35) (pg_Z.2.1 35) (pg_Z.2.2.1 35) (pg_Z.2.2.2.1 35) ∈ pg_G := List.mem_filter.mpr ⟨List.mem_of_getElem? (i := 759) (by decide +kernel), by decide +kernel⟩
theorem gc_36 : Jvm.Cond.code (pg_Z.1 36) (pg_Z.2.1 36) (pg_Z.2.2.1 36) (pg_Z.2.2.2.1 36) ∈ pg_G := List.mem_filter.mpr ⟨List.mem_of_getElem? (i := 764) (by decide +kernel), by decide +kernel⟩
theorem gc_37 : Jvm.Cond.code (pg_Z.1 37) (pg_Z.2.1 37) (pg_Z.2.2.1 37) (pg_Z.2.2.2.1 37) ∈ pg_G := List.mem_filter.mpr ⟨List.mem_of_getElem? (i := 768) (by decide +kernel), by decide +kernel⟩
theorem gc_38 : Jvm.Cond.code (pg_Z.1 38) (pg_Z.2.1 38) (pg_Z.2.2.1 38) (pg_Z.2.2.2.1 38) ∈ pg_G := List.mem_filter.mpr ⟨List.mem_of_getElem? (i := 352) (by decide +kernel), by decide +kernel⟩
theorem gc_39 : Jvm.Cond.code (pg_Z.1 39) (pg_Z.2.1 39) (pg_Z.2.2.1 39) (pg_Z.2.2.2.1 39) ∈ pg_G := List.mem_filter.mpr ⟨List.mem_of_getElem? (i := 363) (by decide +kernel), by decide +kernel⟩
theorem gc_40 : Jvm.Cond.code (pg_Z.1 40) (pg_Z.2.1 40) (pg_Z.2.2.1 40) (pg_Z.2.2.2.1 40) ∈ pg_G := List.mem_filter.mpr ⟨List.mem_of_getElem? (i := 622) (by decide +kernel), by decide +kernel⟩
theorem gc_41 : Jvm.Cond.code (pg_Z.1 41) (pg_Z.2.1 41) (pg_Z.2.2.1 41) (pg_Z.2.2.2.1 41) ∈ pg_G := List.mem_filter.mpr ⟨List.mem_of_getElem? (i := 601) (by decide +kernel), by decide +kernel⟩
theorem gc_42 : Jvm.Cond.code (pg_Z.1 42) (pg_Z.2.1 42) (pg_Z.2.2.1 42) (pg_Z.2.2.2.1 42) ∈ pg_G := List.mem_filter.mpr ⟨List.mem_of_getElem? (i := 146) (by decide +kernel), by decide +kernel⟩
theorem gc_43 : Jvm.Cond.code (pg_Z.1 43) (pg_Z.2.1 43) (pg_Z.2.2.1 43) (pg_Z.2.2.2.1 43) ∈ pg_G := List.mem_filter.mpr ⟨List.mem_of_getElem? (i := 332) (by decide +kernel), by decide +kernel⟩
theorem gc_44 : Jvm.Cond.code (pg_Z.1 44) (pg_Z.2.1 44) (pg_Z.2.2.1 44) (pg_Z.2.2.2.1 44) ∈ pg_G := List.mem_filter.mpr ⟨List.mem_of_getElem? (i := 666) (by decide +kernel), by decide +kernel⟩
theorem gc_45 : Jvm.Cond.code (pg_Z.1 45) (pg_Z.2.1 45) (pg_Z.2.2.1 45) (pg_Z.2.2.2.1 45) ∈ pg_G := List.mem_filter.mpr ⟨List.mem_of_getElem? (i := 593) (by decide +kernel), by decide +kernel⟩
theorem gc_46 : Jvm.Cond.code (pg_Z.1 46) (pg_Z.2.1 46) (pg_Z.2.2.1 46) (pg_Z.2.2.2.1 46) ∈ pg_G := List.mem_filter.mpr ⟨List.mem_of_getElem? (i := 597) (by decide +kernel), by decide +kernel⟩
theorem gc_47 : Jvm.Cond.code (pg_Z.1 47) (pg_Z.2.1 47) (pg_Z.2.2.1 47) (pg_Z.2.2.2.1 47) ∈ pg_G := List.mem_filter.mpr ⟨List.mem_of_getElem? (i := 630) (by decide +kernel), by decide +kernel⟩
theorem gc_48 : Jvm.Cond.code (pg_Z.1 48) (pg_Z.2.1 48) (pg_Z.2.2.1 48) (pg_Z.2.2.2.1 48) ∈ pg_G := List.mem_filter.mpr ⟨List.mem_of_getElem? (i := 360) (by decide +kernel), by decide +kernel⟩
theorem gc_49 : Jvm.Cond.code (pg_Z.1 49) (pg_Z.2.1 49) (pg_Z.2.2.1 49) (pg_Z.2.2.2.1 49) ∈ pg_G := List.mem_filter.mpr ⟨List.mem_of_getElem? (i := 340) (by decide +kernel), by decide +kernel⟩
theorem gc_50 : Jvm.Cond.code (pg_Z.1 50) (pg_Z.2.1 50) (pg_Z.2.2.1 50) (pg_Z.2.2.2.1 50) ∈ pg_G := List.mem_filter.mpr ⟨List.mem_of_getElem? (i := 654) (by decide +kernel), by decide +kernel⟩
theorem gc_51 : Jvm.Cond.code (pg_Z.1 51) (pg_Z.2.1 51) (pg_Z.2.2.1 51) (pg_Z.2.2.2.1 51) ∈ pg_G := List.mem_filter.mpr ⟨List.mem_of_getElem? (i := 662) (by decide +kernel), by decide +kernel⟩
theorem gc_52 : Jvm.Cond.code (pg_Z.1 52) (pg_Z.2.1 52) (pg_Z.2.2.1 52) (pg_Z.2.2.2.1 52) ∈ pg_G := List.mem_filter.mpr ⟨List.mem_of_getElem? (i := 672) (by decide +kernel), by decide +kernel⟩
theorem gc_53 : Jvm.Cond.code (pg_Z.1 53) (pg_Z.2.1 53) (pg_Z.2.2.1 53) (pg_Z.2.2.2.1 53) ∈ pg_G := List.mem_filter.mpr ⟨List.mem_of_getElem? (i := 685) (by decide +kernel), by decide +kernel⟩
theorem gc_54 : Jvm.Cond.code (pg_Z.1 54) (pg_Z.2.1 54) (pg_Z.2.2.1 54) (pg_Z.2.2.2.1 54) ∈ pg_G := List.mem_filter.mpr ⟨List.mem_of_getElem? (i := 698) (by decide +kernel), by decide +kernel⟩
theorem gc_55 : Jvm.Cond.code (pg_Z.1 55) (pg_Z.2.1 55) (pg_Z.2.2.1 55) (pg_Z.2.2.2.1 55) ∈ pg_G := List.mem_filter.mpr ⟨List.mem_of_getElem? (i := 709) (by decide +kernel), by decide +kernel⟩
theorem gc_56 : Jvm.Cond.code (pg_Z.1 56) (pg_Z.2.1 56) (pg_Z.2.2.1 56) (pg_Z.2.2.2.1 56) ∈ pg_G := List.mem_filter.mpr ⟨List.mem_of_getElem? (i := 713) (by decide +kernel), by decide +kernel⟩
theorem gc_57 : Jvm.Cond.code (pg_Z.1 57) (pg_Z.2.1 57) (pg_Z.2.2.1 57) (pg_Z.2.2.2.1 57) ∈ pg_G := List.mem_filter.mpr ⟨List.mem_of_getElem? (i := 724) (by decide +kernel), by decide +kernel⟩
theorem gc_58 : Jvm.Cond.code (pg_Z.1 58) (pg_Z.2.1 58) (pg_Z.2.2.1 58) (pg_Z.2.2.2.1 58) ∈ pg_G := List.mem_filter.mpr ⟨List.mem_of_getElem? (i := 733) (by decide +kernel), by decide +kernel⟩
theorem gc_59 : Jvm.Cond.code (pg_Z.1 59) (pg_Z.2.1 59) (pg_Z.2.2.1 59) (pg_Z.2.2.2.1 59) ∈ pg_G := List.mem_filter.mpr ⟨List.mem_of_getElem? (i := 730) (by decide +kernel), by decide +kernel⟩
theorem gc_60 : Jvm.Cond.code (pg_Z.1 60) (pg_Z.2.1 60) (pg_Z.2.2.1 60) (pg_Z.2.2.2.1 60) ∈ pg_G := List.mem_filter.mpr ⟨List.mem_of_getElem? (i := 691) (by decide +kernel), by decide +kernel⟩
theorem gc_61 : Jvm.Cond.code (pg_Z.1 61) (pg_Z.2.1 61) (pg_Z.2.2.1 61) (pg_Z.2.2.2.1 61) ∈ pg_G := List.mem_filter.mpr ⟨List.mem_of_getElem? (i := 675) (by decide +kernel), by decide +kernel⟩
theorem gc_62 : Jvm.Cond.code (pg_Z.1 62) (pg_Z.2.1 62) (pg_Z.2.2.1 62) (pg_Z.2.2.2.1 62) ∈ pg_G := List.mem_filter.mpr ⟨List.mem_of_getElem? (i := 727) (by decide +kernel), by decide +kernel⟩
theorem gc_63 : Jvm.Cond.code (pg_Z.1 63) (pg_Z.2.1 63) (pg_Z.2.2.1 63) (pg_Z.2.2.2.1 63) ∈ pg_G := List.mem_filter.mpr ⟨List.mem_of_getElem? (i := 678) (by decide +kernel), by decide +kernel⟩
theorem gc_64 : Jvm.Cond.code (pg_Z.1 64) (pg_Z.2.1 64) (pg_Z.2.2.1 64) (pg_Z.2.2.2.1 64) ∈ pg_G := List.mem_filter.mpr ⟨List.mem_of_getElem? (i := 688) (by decide +kernel), by decide +kernel⟩
theorem gc_65 : Jvm.Cond.code (pg_Z.1 65) (pg_Z.2.1 65) (pg_Z.2.2.1 65) (pg_Z.2.2.2.1 65) ∈ pg_G := List.mem_filter.mpr ⟨List.mem_of_getElem? (i := 682) (by decide +kernel), by decide +kernel⟩
theorem gc_66 : Jvm.Cond.code (pg_Z.1 66) (pg_Z.2.1 66) (pg_Z.2.2.1 66) (pg_Z.2.2.2.1 66) ∈ pg_G := List.mem_filter.mpr ⟨List.mem_of_getElem? (i := 659) (by decide +kernel), by decide +kernel⟩
theorem gc_67 : Jvm.Cond.code (pg_Z.1 67) (pg_Z.2.1 67) (pg_Z.2.2.1 67) (pg_Z.2.2.2.1 67) ∈ pg_G := List.mem_filter.mpr ⟨List.mem_of_getElem? (i := 716) (by decide +kernel), by decide +kernel⟩
theorem gc_68 : Jvm.Cond.code (pg_Z.1 68) (pg_Z.2.1 68) (pg_Z.2.2.1 68) (pg_Z.2.2.2.1 68) ∈ pg_G := List.mem_filter.mpr ⟨List.mem_of_getElem? (i := 669) (by decide +kernel), by decide +kernel⟩
theorem gc_69 : Jvm.Cond.code (pg_Z.1 69) (pg_Z.2.1 69) (pg_Z.2.2.1 69) (pg_Z.2.2.2.1 69) ∈ pg_G := List.mem_filter.mpr ⟨List.mem_of_getElem? (i := 695) (by decide +kernel), by decide +kernel⟩
theorem gc_86 : Jvm.Cond.code (pg_Z.1 86) (pg_Z.2.1 86) (pg_Z.2.2.1 86) (pg_Z.2.2.2.1 86) ∈ pg_G := List.mem_filter.mpr ⟨List.mem_of_getElem? (i := 309) (by decide +kernel), by decide +kernel⟩
theorem gc_87 : Jvm.Cond.code (pg_Z.1 87) (pg_Z.2.1 87) (pg_Z.2.2.1 87) (pg_Z.2.2.2.1 87) ∈ pg_G := List.mem_filter.mpr ⟨List.mem_of_getElem? (i := 527) (by decide +kernel), by decide +kernel⟩
theorem gc_88 : Jvm.Cond.code (pg_Z.1 88) (pg_Z.2.1 88) (pg_Z.2.2.1 88) (pg_Z.2.2.2.1 88) ∈ pg_G := List.mem_filter.mpr ⟨List.mem_of_getElem? (i := 530) (by decide +kernel), by decide +kernel⟩
theorem gc_89 : Jvm.Cond.code (pg_Z.1 89) (pg_Z.2.1 89) (pg_Z.2.2.1 89) (pg_Z.2.2.2.1 89) ∈ pg_G := List.mem_filter.mpr ⟨List.mem_of_getElem? (i := 306) (by decide +kernel), by decide +kernel⟩
theorem gc_90 : Jvm.Cond.code (pg_Z.1 90) (pg_Z.2.1 90) (pg_Z.2.2.1 90) (pg_Z.2.2.2.1 90) ∈ pg_G := List.mem_filter.mpr ⟨List.mem_of_getElem? (i := 324) (by decide +kernel), by decide +kernel⟩
theorem gc_91 : Jvm.Cond.code (pg_Z.1 91) (pg_Z.2.1 91) (pg_Z.2.2.1 91) (pg_Z.2.2.2.1 91) ∈ pg_G := List.mem_filter.mpr ⟨List.mem_of_getElem? (i := 371) (by decide +kernel), by decide +kernel⟩
theorem gc_92 : Jvm.Cond.code (pg_Z.1 92) (pg_Z.2.1 92) (pg_Z.2.2.1 92) (pg_Z.2.2.2.1 92) ∈ pg_G := List.mem_filter.mpr ⟨List.mem_of_getElem? (i := 614) (by decide +kernel), by decide +kernel⟩
theorem gc_93 : Jvm.Cond.code (pg_Z.1 93) (pg_Z.2.1 93) (pg_Z.2.2.1 93) (pg_Z.2.2.2.1 93) ∈ pg_G := List.mem_filter.mpr ⟨List.mem_of_getElem? (i := 626) (by decide +kernel), by decide +kernel⟩
theorem gc_94 : Jvm.Cond.code (pg_Z.1 94) (pg_Z.2.1 94) (pg_Z.2.2.1 94) (pg_Z.2.2.2.1 94) ∈ pg_G := List.mem_filter.mpr ⟨List.mem_of_getElem? (i := 634) (by decide +kernel), by decide +kernel⟩
theorem gc_95 : Jvm.Cond.code (pg_Z.1 95) (pg_Z.2.1 95) (pg_Z.2.2.1 95) (pg_Z.2.2.2.1 95) ∈ pg_G := List.mem_filter.mpr ⟨List.mem_of_getElem? (i := 737) (by decide +kernel), by decide +kernel⟩
theorem gc_96 : Jvm.Cond.code (pg_Z.1 96) (pg_Z.2.1 96) (pg_Z.2.2.1 96) (pg_Z.2.2.2.1 96) ∈ pg_G := List.mem_filter.mpr ⟨List.mem_of_getElem? (i := 741) (by decide +kernel), by decide +kernel⟩
theorem gc_97 : Jvm.Cond.code (pg_Z.1 97) (pg_Z.2.1 97) (pg_Z.2.2.1 97) (pg_Z.2.2.2.1 97) ∈ pg_G := List.mem_filter.mpr ⟨List.mem_of_getElem? (i := 772) (by decide +kernel), by decide +kernel⟩
theorem gc_98 : Jvm.Cond.code (pg_Z.1 98) (pg_Z.2.1 98) (pg_Z.2.2.1 98) (pg_Z.2.2.2.1 98) ∈ pg_G := List.mem_filter.mpr ⟨List.mem_of_getElem? (i := 780) (by decide +kernel), by decide +kernel⟩
theorem gc_101 : Jvm.Cond.code (pg_Z.1 101) (pg_Z.2.1 101) (pg_Z.2.2.1 101) (pg_Z.2.2.2.1 101) ∈ pg_G := List.mem_filter.mpr ⟨List.mem_of_getElem? (i := 940) (by decide +kernel), by decide +kernel⟩
theorem gc_102 : Jvm.Cond.code (pg_Z.1 102) (pg_Z.2.1 102) (pg_Z.2.2.1 102) (pg_Z.2.2.2.1 102) ∈ pg_G := List.mem_filter.mpr ⟨List.mem_of_getElem? (i := 976) (by decide +kernel), by decide +kernel⟩
theorem gc_103 : Jvm.Cond.code (pg_Z.1 103) (pg_Z.2.1 103) (pg_Z.2.2.1 103) (pg_Z.2.2.2.1 103) ∈ pg_G := List.mem_filter.mpr ⟨List.mem_of_getElem? (i := 972) (by decide +kernel), by decide +kernel⟩
theorem gc_104 : Jvm.Cond.code (pg_Z.1 104) (pg_Z.2.1 104) (pg_Z.2.2.1 104) (pg_Z.2.2.2.1 104) ∈ pg_G := List.mem_filter.mpr ⟨List.mem_of_getElem? (i := 1004) (by decide +kernel), by decide +kernel⟩
theorem gc_105 : Jvm.Cond.code (pg_Z.1 105) (pg_Z.2.1 105) (pg_Z.2.2.1 105) (pg_Z.2.2.2.1 105) ∈ pg_G := List.mem_filter.mpr ⟨List.mem_of_getElem? (i := 1008) (by decide +kernel), by decide +kernel⟩
theorem gc_106 : Jvm.Cond.code (pg_Z.1 106) (pg_Z.2.1 106) (pg_Z.2.2.1 106) (pg_Z.2.2.2.1 106) ∈ pg_G := List.mem_filter.mpr ⟨List.mem_of_getElem? (i := 1000) (by decide +kernel), by decide +kernel⟩
theorem gc_107 : Jvm.Cond.code (pg_Z.1 107) (pg_Z.2.1 107) (pg_Z.2.2.1 107) (pg_Z.2.2.2.1 107) ∈ pg_G := List.mem_filter.mpr ⟨List.mem_of_getElem? (i := 960) (by decide +kernel), by decide +kernel⟩
theorem gc_108 : Jvm.Cond.code (pg_Z.1 108) (pg_Z.2.1 108) (pg_Z.2.2.1 108) (pg_Z.2.2.2.1 108) ∈ pg_G := List.mem_filter.mpr ⟨List.mem_of_getElem? (i := 1016) (by decide +kernel), by decide +kernel⟩
theorem gc_109 : Jvm.Cond.code (pg_Z.1 109) (pg_Z.2.1 109) (pg_Z.2.2.1 109) (pg_Z.2.2.2.1 109) ∈ pg_G := List.mem_filter.mpr ⟨List.mem_of_getElem? (i := 964) (by decide +kernel), by decide +kernel⟩
theorem gc_110 : Jvm.Cond.code (pg_Z.1 110) (pg_Z.2.1 110) (pg_Z.2.2.1 110) (pg_Z.2.2.2.1 110) ∈ pg_G := List.mem_filter.mpr ⟨List.mem_of_getElem? (i := 1023) (by decide +kernel), by decide +kernel⟩
theorem gc_111 : Jvm.Cond.code (pg_Z.1 111) (pg_Z.2.1 111) (pg_Z.2.2.1 111) (pg_Z.2.2.2.1 111) ∈ pg_G := List.mem_filter.mpr ⟨List.mem_of_getElem? (i := 1037) (by decide +kernel), by decide +kernel⟩
theorem gc_112 : Jvm.Cond.code (pg_Z.1 112) (pg_Z.2.1 112) (pg_Z.2.2.1 112) (pg_Z.2.2.2.1 112) ∈ pg_G := List.mem_filter.mpr ⟨List.mem_of_getElem? (i := 1027) (by decide +kernel), by decide +kernel⟩
theorem gc_113 : Jvm.Cond.code (pg_Z.1 113) (pg_Z.2.1 113) (pg_Z.2.2.1 113) (pg_Z.2.2.2.1 113) ∈ pg_G := List.mem_filter.mpr ⟨List.mem_of_getElem? (i := 1042) (by decide +kernel), by decide +kernel⟩
theorem gc_114 : Jvm.Cond.code (pg_Z.1 114) (pg_Z.2.1 114) (pg_Z.2.2.1 114) (pg_Z.2.2.2.1 114) ∈ pg_G := List.mem_filter.mpr ⟨List.mem_of_getElem? (i := 1046) (by decide +kernel), by decide +kernel⟩
theorem gc_115 : Jvm.Cond.code (pg_Z.1 115) (pg_Z.2.1 115) (pg_Z.2.2.1 115) (pg_Z.2.2.2.1 115) ∈ pg_G := List.mem_filter.mpr ⟨List.mem_of_getElem? (i := 1034) (by decide +kernel), by decide +kernel⟩
theorem gc_116 : Jvm.Cond.code (pg_Z.1 116) (pg_Z.2.1 116) (pg_Z.2.2.1 116) (pg_Z.2.2.2.1 116) ∈ pg_G := List.mem_filter.mpr ⟨List.mem_of_getElem? (i := 1053) (by decide +kernel), by decide +kernel⟩
theorem gc_117 : Jvm.Cond.code (pg_Z.1 117) (pg_Z.2.1 117) (pg_Z.2.2.1 117) (pg_Z.2.2.2.1 117) ∈ pg_G := List.mem_filter.mpr ⟨List.mem_of_getElem? (i := 1031) (by decide +kernel), by decide +kernel⟩
theorem gc_118 : Jvm.Cond.code (pg_Z.1 118) (pg_Z.2.1 118) (pg_Z.2.2.1 118) (pg_Z.2.2.2.1 118) ∈ pg_G := List.mem_filter.mpr ⟨List.mem_of_getElem? (i := 1050) (by decide +kernel), by decide +kernel⟩
theorem gc_119 : Jvm.Cond.code (pg_Z.1 119) (pg_Z.2.1 119) (pg_Z.2.2.1 119) (pg_Z.2.2.2.1 119) ∈ pg_G := List.mem_filter.mpr ⟨List.mem_of_getElem? (i := 1020) (by decide +kernel), by decide +kernel⟩
theorem gc_120 : Jvm.Cond.code (pg_Z.1 120) (pg_Z.2.1 120) (pg_Z.2.2.1 120) (pg_Z.2.2.2.1 120) ∈ pg_G := List.mem_filter.mpr ⟨List.mem_of_getElem? (i := 1065) (by decide +kernel), by decide +kernel⟩
theorem gc_121 : Jvm.Cond.code (pg_Z.1 121) (pg_Z.2.1 121) (pg_Z.2.2.1 121) (pg_Z.2.2.2.1 121) ∈ pg_G := List.mem_filter.mpr ⟨List.mem_of_getElem? (i := 1061) (by decide +kernel), by decide +kernel⟩
theorem gc_122 : Jvm.Cond.code (pg_Z.1 122) (pg_Z.2.1 122) (pg_Z.2.2.1 122) (pg_Z.2.2.2.1 122) ∈ pg_G := List.mem_filter.mpr ⟨List.mem_of_getElem? (i := 1069) (by decide +kernel), by decide +kernel⟩
theorem gc_123 : Jvm.Cond.code (pg_Z.1 123) (pg_Z.2.1 123) (pg_Z.2.2.1 123) (pg_Z.2.2.2.1 123) ∈ pg_G := List.mem_filter.mpr ⟨List.mem_of_getElem? (i := 1073) (by decide +kernel), by decide +kernel⟩
theorem gc_124 : Jvm.Cond.code (pg_Z.1 124) (pg_Z.2.1 124) (pg_Z.2.2.1 124) (pg_Z.2.2.2.1 124) ∈ pg_G := List.mem_filter.mpr ⟨List.mem_of_getElem? (i := 1077) (by decide +kernel), by decide +kernel⟩
theorem gc_125 : Jvm.Cond.code (pg_Z.1 125) (pg_Z.2.1 125) (pg_Z.2.2.1 125) (pg_Z.2.2.2.1 125) ∈ pg_G := List.mem_filter.mpr ⟨List.mem_of_getElem? (i := 1081) (by decide +kernel), by decide +kernel⟩
theorem gc_126 : Jvm.Cond.code (pg_Z.1 126) (pg_Z.2.1 126) (pg_Z.2.2.1 126) (pg_Z.2.2.2.1 126) ∈ pg_G := List.mem_filter.mpr ⟨List.mem_of_getElem? (i := 1085) (by decide +kernel), by decide +kernel⟩
theorem gc_127 : Jvm.Cond.code (pg_Z.1 127) (pg_Z.2.1 127) (pg_Z.2.2.1 127) (pg_Z.2.2.2.1 127) ∈ pg_G := List.mem_filter.mpr ⟨List.mem_of_getElem? (i := 1089) (by decide +kernel), by decide +kernel⟩
theorem gc_128 : Jvm.Cond.code (pg_Z.1 128) (pg_Z.2.1 128) (pg_Z.2.2.1 128) (pg_Z.2.2.2.1 128) ∈ pg_G := List.mem_filter.mpr ⟨List.mem_of_getElem? (i := 1093) (by decide +kernel), by decide +kernel⟩
theorem gc_129 : Jvm.Cond.code (pg_Z.1 129) (pg_Z.2.1 129) (pg_Z.2.2.1 129) (pg_Z.2.2.2.1 129) ∈ pg_G := List.mem_filter.mpr ⟨List.mem_of_getElem? (i := 1057) (by decide +kernel), by decide +kernel⟩
theorem gc_130 : Jvm.Cond.code (pg_Z.1 130) (pg_Z.2.1 130) (pg_Z.2.2.1 130) (pg_Z.2.2.2.1 130) ∈ pg_G := List.mem_filter.mpr ⟨List.mem_of_getElem? (i := 988) (by decide +kernel), by decide +kernel⟩
theorem gc_131 : Jvm.Cond.code (pg_Z.1 131) (pg_Z.2.1 131) (pg_Z.2.2.1 131) (pg_Z.2.2.2.1 131) ∈ pg_G := List.mem_filter.mpr ⟨List.mem_of_getElem? (i := 992) (by decide +kernel), by decide +kernel⟩
theorem gc_132 : Jvm.Cond.code (pg_Z.1 132) (pg_Z.2.1 132) (pg_Z.2.2.1 132) (pg_Z.2.2.2.1 132) ∈ pg_G := List.mem_filter.mpr ⟨List.mem_of_getElem? (i := 996) (by decide +kernel), by decide +kernel⟩
theorem gc_133 : Jvm.Cond.code (pg_Z.1 133) (pg_Z.2.1 133) (pg_Z.2.2.1 133) (pg_Z.2.2.2.1 133) ∈ pg_G := List.mem_filter.mpr ⟨List.mem_of_getElem? (i := 1012) (by decide +kernel), by decide +kernel⟩
theorem gc_134 : Jvm.Cond.code (pg_Z.1 134) (pg_Z.2.1 134) (pg_Z.2.2.1 134) (pg_Z.2.2.2.1 134) ∈ pg_G := List.mem_filter.mpr ⟨List.mem_of_getElem? (i := 984) (by decide +kernel), by decide +kernel⟩
theorem gc_143 : Jvm.Cond.code (pg_Z.1 143) (pg_Z.2.1 143) (pg_Z.2.2.1 143) (pg_Z.2.2.2.1 143) ∈ pg_G := List.mem_filter.mpr ⟨List.mem_of_getElem? (i := 1105) (by decide +kernel), by decide +kernel⟩
end
section
/-! Rows of methods, by program. -/
-- PartitionKernel$Channel.<init>
set_option maxRecDepth 100000 in
theorem dc_1 : ∀ en ∈ cd_1, decode prog_2_method_1_code en.1 = .ok (en.2.1, en.2.2.1 - en.1) := by decide +kernel
set_option maxRecDepth 100000 in
set_option maxHeartbeats 4000000 in
theorem ok_1 (cA : Nat → ClassId) : mq_okm pg_cl (pg_tys cA) (pg_E cA) pg_Z pg_sw pg_mx pg_X 1 cd_1 := ⟨by decide +kernel, by decide +kernel, mq_ok_of dc_1 ⟨⟨rfl, trivial⟩,
  ⟨rfl, rfl, gw_245 _, gw_67 _, gw_obj _⟩,
  ⟨rfl, trivial⟩,
  ⟨rfl, (by decide : (Int8.ofInt 8).toInt32 = 8)⟩,
  ⟨rfl, (by decide : 11 ≠ 999), (by decide : 8 ≤ 65536), Or.inl ⟨rfl, rfl, gw_96 _⟩⟩,
  ⟨rfl, _, _, _, _, okc_0 cA _, (by decide : 0 < 8), gw_246 _, Or.inr ⟨rfl, rfl, rfl⟩, ⟨rfl, Or.inr ⟨_, rfl⟩⟩⟩,
  ⟨rfl, trivial⟩,
  ⟨rfl, (by decide : Int32.ofInt (-1) = (-1))⟩,
  ⟨rfl, _, _, _, _, okc_0 cA _, (by decide : 7 < 8), gw_256 _, Or.inl rfl, ⟨rfl, rfl⟩⟩,
  ⟨rfl, rfl⟩, trivial⟩⟩
-- PartitionKernel$Channel.open
set_option maxRecDepth 100000 in
theorem dc_2 : ∀ en ∈ cd_2, decode prog_2_method_2_code en.1 = .ok (en.2.1, en.2.2.1 - en.1) := by decide +kernel
set_option maxRecDepth 100000 in
set_option maxHeartbeats 4000000 in
theorem ok_2 (cA : Nat → ClassId) : mq_okm pg_cl (pg_tys cA) (pg_E cA) pg_Z pg_sw pg_mx pg_X 2 cd_2 := ⟨by decide +kernel, by decide +kernel, mq_ok_of dc_2 ⟨⟨rfl, trivial⟩,
  ⟨rfl, trivial⟩,
  ⟨rfl, _, _, _, _, okc_0 cA _, (by decide : 1 < 8), gw_247 _, Or.inl rfl, ⟨rfl, rfl⟩⟩,
  ⟨rfl, trivial⟩,
  ⟨rfl, trivial⟩,
  ⟨rfl, _, _, _, _, okc_0 cA _, (by decide : 2 < 8), gw_248 _, Or.inl rfl, ⟨rfl, rfl⟩⟩,
  ⟨rfl, trivial⟩,
  ⟨rfl, trivial⟩,
  ⟨rfl, _, _, _, _, okc_0 cA _, (by decide : 3 < 8), gw_250 _, Or.inl rfl, ⟨rfl, rfl⟩⟩,
  ⟨rfl, trivial⟩,
  ⟨rfl, trivial⟩,
  ⟨rfl, _, _, _, _, okc_0 cA _, (by decide : 4 < 8), gw_252 _, Or.inl rfl, ⟨rfl, rfl⟩⟩,
  ⟨rfl, rfl⟩, trivial⟩⟩
-- PartitionKernel$Channel.put
set_option maxRecDepth 100000 in
theorem dc_3 : ∀ en ∈ cd_3, decode prog_2_method_3_code en.1 = .ok (en.2.1, en.2.2.1 - en.1) := by decide +kernel
set_option maxRecDepth 100000 in
set_option maxHeartbeats 4000000 in
theorem ok_3 (cA : Nat → ClassId) : mq_okm pg_cl (pg_tys cA) (pg_E cA) pg_Z pg_sw pg_mx pg_X 3 cd_3 := ⟨by decide +kernel, by decide +kernel, mq_ok_of dc_3 ⟨⟨rfl, trivial⟩,
  ⟨rfl, _, _, _, _, okc_0 cA _, (by decide : 1 < 8), gw_247 _, trivial, ⟨rfl, rfl⟩⟩,
  ⟨rfl, (by decide : ((4 : Nat) : Int) + 22 = ((26 : Nat) : Int))⟩,
  ⟨rfl, trivial⟩,
  ⟨rfl, _, _, _, _, okc_0 cA _, (by decide : 0 < 8), gw_246 _, trivial, ⟨rfl, Or.inr ⟨_, rfl⟩⟩⟩,
  ⟨rfl, (by decide : Int32.ofInt 0 = 0)⟩,
  ⟨rfl, trivial⟩,
  ⟨rfl, trivial⟩,
  ⟨rfl, trivial⟩,
  ⟨rfl, (by decide : Int32.ofInt 1 = 1)⟩,
  ⟨rfl, _, _, _, _, okc_0 cA _, (by decide : 6 < 8), gw_254 _, Or.inl rfl, ⟨rfl, rfl⟩⟩,
  ⟨rfl, trivial⟩,
  ⟨rfl, trivial⟩,
  ⟨rfl, _, _, _, _, okc_0 cA _, (by decide : 7 < 8), gw_256 _, Or.inl rfl, ⟨rfl, rfl⟩⟩,
  ⟨rfl, (by decide : Int32.ofInt 0 = 0)⟩,
  ⟨rfl, Or.inr rfl⟩,
  ⟨rfl, trivial⟩,
  ⟨rfl, _, _, _, _, okc_0 cA _, (by decide : 6 < 8), gw_254 _, trivial, ⟨rfl, rfl⟩⟩,
  ⟨rfl, trivial⟩,
  ⟨rfl, _, _, _, _, okc_0 cA _, (by decide : 4 < 8), gw_252 _, trivial, ⟨rfl, rfl⟩⟩,
  ⟨rfl, (by decide : ((34 : Nat) : Int) + 5 = ((39 : Nat) : Int))⟩,
  ⟨rfl, (by decide : Int32.ofInt 2 = 2)⟩,
  ⟨rfl, Or.inr rfl⟩,
  ⟨rfl, trivial⟩,
  ⟨rfl, _, _, _, _, okc_0 cA _, (by decide : 0 < 8), gw_246 _, trivial, ⟨rfl, Or.inr ⟨_, rfl⟩⟩⟩,
  ⟨rfl, trivial⟩,
  ⟨rfl, trivial⟩,
  ⟨rfl, _, _, _, _, okc_0 cA _, (by decide : 6 < 8), gw_254 _, trivial, ⟨rfl, rfl⟩⟩,
  ⟨rfl, 1, _, rfl, ⟨okg 7 _ gc_7, gw_51 _, gw_384 _, ⟨by decide +kernel, by decide +kernel, by decide +kernel⟩, by decide +kernel⟩, gw_386 _, rfl, gw_4 _⟩,
  ⟨rfl, trivial⟩,
  ⟨rfl, trivial⟩,
  ⟨rfl, trivial⟩,
  ⟨rfl, trivial⟩,
  ⟨rfl, _, _, _, _, okc_0 cA _, (by decide : 6 < 8), gw_254 _, trivial, ⟨rfl, rfl⟩⟩,
  ⟨rfl, (by decide : Int32.ofInt 1 = 1)⟩,
  ⟨rfl, trivial⟩,
  ⟨rfl, _, _, _, _, okc_0 cA _, (by decide : 6 < 8), gw_254 _, Or.inl rfl, ⟨rfl, rfl⟩⟩,
  ⟨rfl, (by decide : Int32.ofInt 0 = 0)⟩,
  ⟨rfl, Or.inr rfl⟩, trivial⟩⟩
-- PartitionKernel$Channel.taken
set_option maxRecDepth 100000 in
theorem dc_4 : ∀ en ∈ cd_4, decode prog_2_method_4_code en.1 = .ok (en.2.1, en.2.2.1 - en.1) := by decide +kernel
set_option maxRecDepth 100000 in
set_option maxHeartbeats 4000000 in
theorem ok_4 (cA : Nat → ClassId) : mq_okm pg_cl (pg_tys cA) (pg_E cA) pg_Z pg_sw pg_mx pg_X 4 cd_4 := ⟨by decide +kernel, by decide +kernel, mq_ok_of dc_4 ⟨⟨rfl, trivial⟩,
  ⟨rfl, _, _, _, _, okc_0 cA _, (by decide : 1 < 8), gw_247 _, trivial, ⟨rfl, rfl⟩⟩,
  ⟨rfl, (by decide : ((4 : Nat) : Int) + 22 = ((26 : Nat) : Int))⟩,
  ⟨rfl, trivial⟩,
  ⟨rfl, trivial⟩,
  ⟨rfl, _, _, _, _, okc_0 cA _, (by decide : 7 < 8), gw_256 _, trivial, ⟨rfl, rfl⟩⟩,
  ⟨rfl, trivial⟩,
  ⟨rfl, trivial⟩,
  ⟨rfl, _, _, _, _, okc_0 cA _, (by decide : 4 < 8), gw_252 _, trivial, ⟨rfl, rfl⟩⟩,
  ⟨rfl, (by decide : ((17 : Nat) : Int) + 7 = ((24 : Nat) : Int))⟩,
  ⟨rfl, (by decide : Int32.ofInt 0 = 0)⟩,
  ⟨rfl, (by decide : ((21 : Nat) : Int) + 4 = ((25 : Nat) : Int))⟩,
  ⟨rfl, (by decide : Int32.ofInt 3 = 3)⟩,
  ⟨rfl, Or.inr rfl⟩,
  ⟨rfl, trivial⟩,
  ⟨rfl, trivial⟩,
  ⟨rfl, (by decide : Int32.ofInt 1 = 1)⟩,
  ⟨rfl, 1, _, rfl, ⟨okg 7 _ gc_7, gw_51 _, gw_384 _, ⟨by decide +kernel, by decide +kernel, by decide +kernel⟩, by decide +kernel⟩, gw_386 _, rfl, gw_4 _⟩,
  ⟨rfl, _, _, _, _, okc_0 cA _, (by decide : 5 < 8), gw_253 _, Or.inl rfl, ⟨rfl, rfl⟩⟩,
  ⟨rfl, trivial⟩,
  ⟨rfl, trivial⟩,
  ⟨rfl, _, _, _, _, okc_0 cA _, (by decide : 6 < 8), gw_254 _, trivial, ⟨rfl, rfl⟩⟩,
  ⟨rfl, (by decide : Int32.ofInt 1 = 1)⟩,
  ⟨rfl, trivial⟩,
  ⟨rfl, _, _, _, _, okc_0 cA _, (by decide : 6 < 8), gw_254 _, Or.inl rfl, ⟨rfl, rfl⟩⟩,
  ⟨rfl, (by decide : Int32.ofInt 0 = 0)⟩,
  ⟨rfl, Or.inr rfl⟩, trivial⟩⟩
-- PartitionKernel$Channel.wordAt
set_option maxRecDepth 100000 in
theorem dc_5 : ∀ en ∈ cd_5, decode prog_2_method_5_code en.1 = .ok (en.2.1, en.2.2.1 - en.1) := by decide +kernel
set_option maxRecDepth 100000 in
set_option maxHeartbeats 4000000 in
theorem ok_5 (cA : Nat → ClassId) : mq_okm pg_cl (pg_tys cA) (pg_E cA) pg_Z pg_sw pg_mx pg_X 5 cd_5 := ⟨by decide +kernel, by decide +kernel, mq_ok_of dc_5 ⟨⟨rfl, trivial⟩,
  ⟨rfl, (by decide : ((1 : Nat) : Int) + 24 = ((25 : Nat) : Int))⟩,
  ⟨rfl, trivial⟩,
  ⟨rfl, trivial⟩,
  ⟨rfl, _, _, _, _, okc_0 cA _, (by decide : 6 < 8), gw_254 _, trivial, ⟨rfl, rfl⟩⟩,
  ⟨rfl, (by decide : ((9 : Nat) : Int) + 16 = ((25 : Nat) : Int))⟩,
  ⟨rfl, trivial⟩,
  ⟨rfl, _, _, _, _, okc_0 cA _, (by decide : 0 < 8), gw_246 _, trivial, ⟨rfl, Or.inr ⟨_, rfl⟩⟩⟩,
  ⟨rfl, trivial⟩,
  ⟨rfl, trivial⟩,
  ⟨rfl, 1, _, rfl, ⟨okg 7 _ gc_7, gw_51 _, gw_384 _, ⟨by decide +kernel, by decide +kernel, by decide +kernel⟩, by decide +kernel⟩, gw_386 _, rfl, gw_4 _⟩,
  ⟨rfl, trivial⟩,
  ⟨rfl, (by decide : ((22 : Nat) : Int) + 4 = ((26 : Nat) : Int))⟩,
  ⟨rfl, (by decide : Int32.ofInt 0 = 0)⟩,
  ⟨rfl, Or.inr rfl⟩, trivial⟩⟩
-- PartitionKernel$Channel.tell
set_option maxRecDepth 100000 in
theorem dc_6 : ∀ en ∈ cd_6, decode prog_2_method_6_code en.1 = .ok (en.2.1, en.2.2.1 - en.1) := by decide +kernel
set_option maxRecDepth 100000 in
set_option maxHeartbeats 4000000 in
theorem ok_6 (cA : Nat → ClassId) : mq_okm pg_cl (pg_tys cA) (pg_E cA) pg_Z pg_sw pg_mx pg_X 6 cd_6 := ⟨by decide +kernel, by decide +kernel, mq_ok_of dc_6 ⟨⟨rfl, trivial⟩,
  ⟨by decide, by decide, by decide, by decide, by decide, by decide, trivial⟩,
  ⟨rfl, trivial⟩,
  ⟨rfl, _, _, _, _, okc_0 cA _, (by decide : 6 < 8), gw_254 _, trivial, ⟨rfl, rfl⟩⟩,
  ⟨rfl, Or.inr rfl⟩,
  ⟨rfl, trivial⟩,
  ⟨rfl, _, _, _, _, okc_0 cA _, (by decide : 7 < 8), gw_256 _, trivial, ⟨rfl, rfl⟩⟩,
  ⟨rfl, Or.inr rfl⟩,
  ⟨rfl, (by decide : Int32.ofInt (-1) = (-1))⟩,
  ⟨rfl, Or.inr rfl⟩, trivial⟩⟩
-- PartitionKernel$Channel.placeOf
set_option maxRecDepth 100000 in
theorem dc_7 : ∀ en ∈ cd_7, decode prog_2_method_7_code en.1 = .ok (en.2.1, en.2.2.1 - en.1) := by decide +kernel
set_option maxRecDepth 100000 in
set_option maxHeartbeats 4000000 in
theorem ok_7 (cA : Nat → ClassId) : mq_okm pg_cl (pg_tys cA) (pg_E cA) pg_Z pg_sw pg_mx pg_X 7 cd_7 := ⟨by decide +kernel, by decide +kernel, mq_ok_of dc_7 ⟨⟨rfl, trivial⟩,
  ⟨rfl, _, _, _, _, okc_0 cA _, (by decide : 5 < 8), gw_253 _, trivial, ⟨rfl, rfl⟩⟩,
  ⟨rfl, trivial⟩,
  ⟨rfl, trivial⟩,
  ⟨rfl, (by decide : (Int8.ofInt 7).toInt32 = 7)⟩,
  ⟨rfl, trivial⟩,
  ⟨rfl, Or.inr rfl⟩, trivial⟩⟩
-- PartitionKernel$ErrorLog.<init>
set_option maxRecDepth 100000 in
theorem dc_8 : ∀ en ∈ cd_8, decode prog_3_method_1_code en.1 = .ok (en.2.1, en.2.2.1 - en.1) := by decide +kernel
set_option maxRecDepth 100000 in
set_option maxHeartbeats 4000000 in
theorem ok_8 (cA : Nat → ClassId) : mq_okm pg_cl (pg_tys cA) (pg_E cA) pg_Z pg_sw pg_mx pg_X 8 cd_8 := ⟨by decide +kernel, by decide +kernel, mq_ok_of dc_8 ⟨⟨rfl, trivial⟩,
  ⟨rfl, rfl, gw_102 _, gw_67 _, gw_obj _⟩,
  ⟨rfl, trivial⟩,
  ⟨rfl, (by decide : (Int8.ofInt 64).toInt32 = 64)⟩,
  ⟨rfl, (by decide : 14 ≠ 999), (by decide : 64 ≤ 65536), Or.inl ⟨rfl, rfl, gw_96 _⟩⟩,
  ⟨rfl, _, _, _, _, okc_1 cA _, (by decide : 0 < 7), gw_103 _, Or.inr ⟨rfl, rfl, rfl⟩, ⟨rfl, Or.inr ⟨_, rfl⟩⟩⟩,
  ⟨rfl, trivial⟩,
  ⟨rfl, (by decide : (Int8.ofInt 64).toInt32 = 64)⟩,
  ⟨rfl, (by decide : 14 ≠ 999), (by decide : 64 ≤ 65536), Or.inl ⟨rfl, rfl, gw_96 _⟩⟩,
  ⟨rfl, _, _, _, _, okc_1 cA _, (by decide : 1 < 7), gw_104 _, Or.inr ⟨rfl, rfl, rfl⟩, ⟨rfl, Or.inr ⟨_, rfl⟩⟩⟩,
  ⟨rfl, trivial⟩,
  ⟨rfl, (by decide : (Int8.ofInt 64).toInt32 = 64)⟩,
  ⟨rfl, (by decide : 14 ≠ 999), (by decide : 64 ≤ 65536), Or.inl ⟨rfl, rfl, gw_96 _⟩⟩,
  ⟨rfl, _, _, _, _, okc_1 cA _, (by decide : 2 < 7), gw_105 _, Or.inr ⟨rfl, rfl, rfl⟩, ⟨rfl, Or.inr ⟨_, rfl⟩⟩⟩,
  ⟨rfl, trivial⟩,
  ⟨rfl, (by decide : (Int8.ofInt 64).toInt32 = 64)⟩,
  ⟨rfl, (by decide : 14 ≠ 999), (by decide : 64 ≤ 65536), Or.inl ⟨rfl, rfl, gw_96 _⟩⟩,
  ⟨rfl, _, _, _, _, okc_1 cA _, (by decide : 3 < 7), gw_106 _, Or.inr ⟨rfl, rfl, rfl⟩, ⟨rfl, Or.inr ⟨_, rfl⟩⟩⟩,
  ⟨rfl, rfl⟩, trivial⟩⟩
-- PartitionKernel$ErrorLog.note
set_option maxRecDepth 100000 in
theorem dc_9 : ∀ en ∈ cd_9, decode prog_3_method_2_code en.1 = .ok (en.2.1, en.2.2.1 - en.1) := by decide +kernel
set_option maxRecDepth 100000 in
set_option maxHeartbeats 4000000 in
theorem ok_9 (cA : Nat → ClassId) : mq_okm pg_cl (pg_tys cA) (pg_E cA) pg_Z pg_sw pg_mx pg_X 9 cd_9 := ⟨by decide +kernel, by decide +kernel, mq_ok_of dc_9 ⟨⟨rfl, trivial⟩,
  ⟨rfl, _, _, _, _, okc_1 cA _, (by decide : 0 < 7), gw_103 _, trivial, ⟨rfl, Or.inr ⟨_, rfl⟩⟩⟩,
  ⟨rfl, trivial⟩,
  ⟨rfl, _, _, _, _, okc_1 cA _, (by decide : 6 < 7), gw_110 _, trivial, ⟨rfl, rfl⟩⟩,
  ⟨rfl, trivial⟩,
  ⟨rfl, trivial⟩,
  ⟨rfl, trivial⟩,
  ⟨rfl, _, _, _, _, okc_1 cA _, (by decide : 1 < 7), gw_104 _, trivial, ⟨rfl, Or.inr ⟨_, rfl⟩⟩⟩,
  ⟨rfl, trivial⟩,
  ⟨rfl, _, _, _, _, okc_1 cA _, (by decide : 6 < 7), gw_110 _, trivial, ⟨rfl, rfl⟩⟩,
  ⟨rfl, trivial⟩,
  ⟨rfl, trivial⟩,
  ⟨rfl, trivial⟩,
  ⟨rfl, _, _, _, _, okc_1 cA _, (by decide : 2 < 7), gw_105 _, trivial, ⟨rfl, Or.inr ⟨_, rfl⟩⟩⟩,
  ⟨rfl, trivial⟩,
  ⟨rfl, _, _, _, _, okc_1 cA _, (by decide : 6 < 7), gw_110 _, trivial, ⟨rfl, rfl⟩⟩,
  ⟨rfl, trivial⟩,
  ⟨rfl, trivial⟩,
  ⟨rfl, trivial⟩,
  ⟨rfl, _, _, _, _, okc_1 cA _, (by decide : 3 < 7), gw_106 _, trivial, ⟨rfl, Or.inr ⟨_, rfl⟩⟩⟩,
  ⟨rfl, trivial⟩,
  ⟨rfl, _, _, _, _, okc_1 cA _, (by decide : 6 < 7), gw_110 _, trivial, ⟨rfl, rfl⟩⟩,
  ⟨rfl, trivial⟩,
  ⟨rfl, trivial⟩,
  ⟨rfl, trivial⟩,
  ⟨rfl, trivial⟩,
  ⟨rfl, _, _, _, _, okc_1 cA _, (by decide : 6 < 7), gw_110 _, trivial, ⟨rfl, rfl⟩⟩,
  ⟨rfl, (by decide : Int32.ofInt 1 = 1)⟩,
  ⟨rfl, trivial⟩,
  ⟨rfl, (by decide : (Int8.ofInt 64).toInt32 = 64)⟩,
  ⟨rfl, (by decide : ((50 : Nat) : Int) + 12 = ((62 : Nat) : Int))⟩,
  ⟨rfl, trivial⟩,
  ⟨rfl, _, _, _, _, okc_1 cA _, (by decide : 6 < 7), gw_110 _, trivial, ⟨rfl, rfl⟩⟩,
  ⟨rfl, (by decide : Int32.ofInt 1 = 1)⟩,
  ⟨rfl, trivial⟩,
  ⟨rfl, (by decide : ((59 : Nat) : Int) + 4 = ((63 : Nat) : Int))⟩,
  ⟨rfl, (by decide : Int32.ofInt 0 = 0)⟩,
  ⟨rfl, _, _, _, _, okc_1 cA _, (by decide : 6 < 7), gw_110 _, Or.inl rfl, ⟨rfl, rfl⟩⟩,
  ⟨rfl, trivial⟩,
  ⟨rfl, trivial⟩,
  ⟨rfl, _, _, _, _, okc_1 cA _, (by decide : 5 < 7), gw_109 _, trivial, ⟨rfl, rfl⟩⟩,
  ⟨rfl, (by decide : Int32.ofInt 1 = 1)⟩,
  ⟨rfl, trivial⟩,
  ⟨rfl, (by decide : (Int8.ofInt 64).toInt32 = 64)⟩,
  ⟨rfl, gw_639 _, gw_640 _, gw_59 _, gw_min _⟩,
  ⟨rfl, _, _, _, _, okc_1 cA _, (by decide : 5 < 7), gw_109 _, Or.inl rfl, ⟨rfl, rfl⟩⟩,
  ⟨rfl, trivial⟩,
  ⟨rfl, trivial⟩,
  ⟨rfl, _, _, _, _, okc_1 cA _, (by decide : 4 < 7), gw_107 _, trivial, ⟨rfl, rfl⟩⟩,
  ⟨rfl, (by decide : Int32.ofInt 1 = 1)⟩,
  ⟨rfl, trivial⟩,
  ⟨rfl, _, _, _, _, okc_1 cA _, (by decide : 4 < 7), gw_107 _, Or.inl rfl, ⟨rfl, rfl⟩⟩,
  ⟨rfl, rfl⟩, trivial⟩⟩
-- PartitionKernel$ErrorLog.tell
set_option maxRecDepth 100000 in
theorem dc_10 : ∀ en ∈ cd_10, decode prog_3_method_3_code en.1 = .ok (en.2.1, en.2.2.1 - en.1) := by decide +kernel
set_option maxRecDepth 100000 in
set_option maxHeartbeats 4000000 in
theorem ok_10 (cA : Nat → ClassId) : mq_okm pg_cl (pg_tys cA) (pg_E cA) pg_Z pg_sw pg_mx pg_X 10 cd_10 := ⟨by decide +kernel, by decide +kernel, mq_ok_of dc_10 ⟨⟨rfl, trivial⟩,
  ⟨rfl, (by decide : ((1 : Nat) : Int) + 11 = ((12 : Nat) : Int))⟩,
  ⟨rfl, trivial⟩,
  ⟨rfl, trivial⟩,
  ⟨rfl, _, _, _, _, okc_1 cA _, (by decide : 5 < 7), gw_109 _, trivial, ⟨rfl, rfl⟩⟩,
  ⟨rfl, (by decide : ((9 : Nat) : Int) + 5 = ((14 : Nat) : Int))⟩,
  ⟨rfl, (by decide : Int32.ofInt (-1) = (-1))⟩,
  ⟨rfl, Or.inr rfl⟩,
  ⟨rfl, trivial⟩,
  ⟨rfl, _, _, _, _, okc_1 cA _, (by decide : 6 < 7), gw_110 _, trivial, ⟨rfl, rfl⟩⟩,
  ⟨rfl, (by decide : Int32.ofInt 1 = 1)⟩,
  ⟨rfl, trivial⟩,
  ⟨rfl, trivial⟩,
  ⟨rfl, trivial⟩,
  ⟨rfl, (by decide : 3 < 4)⟩,
  ⟨rfl, trivial⟩,
  ⟨rfl, (by decide : ((24 : Nat) : Int) + 6 = ((30 : Nat) : Int))⟩,
  ⟨rfl, (by decide : 3 < 4), (by decide : Int32.ofInt 64 = 64)⟩,
  ⟨rfl, trivial⟩,
  ⟨by decide, by decide, by decide, by decide, by decide, by decide, by decide, by decide, by decide, by decide, trivial⟩,
  ⟨rfl, trivial⟩,
  ⟨rfl, _, _, _, _, okc_1 cA _, (by decide : 0 < 7), gw_103 _, trivial, ⟨rfl, Or.inr ⟨_, rfl⟩⟩⟩,
  ⟨rfl, trivial⟩,
  ⟨rfl, trivial⟩,
  ⟨rfl, Or.inr rfl⟩,
  ⟨rfl, trivial⟩,
  ⟨rfl, _, _, _, _, okc_1 cA _, (by decide : 1 < 7), gw_104 _, trivial, ⟨rfl, Or.inr ⟨_, rfl⟩⟩⟩,
  ⟨rfl, trivial⟩,
  ⟨rfl, trivial⟩,
  ⟨rfl, Or.inr rfl⟩,
  ⟨rfl, trivial⟩,
  ⟨rfl, _, _, _, _, okc_1 cA _, (by decide : 2 < 7), gw_105 _, trivial, ⟨rfl, Or.inr ⟨_, rfl⟩⟩⟩,
  ⟨rfl, trivial⟩,
  ⟨rfl, trivial⟩,
  ⟨rfl, Or.inr rfl⟩,
  ⟨rfl, trivial⟩,
  ⟨rfl, _, _, _, _, okc_1 cA _, (by decide : 3 < 7), gw_106 _, trivial, ⟨rfl, Or.inr ⟨_, rfl⟩⟩⟩,
  ⟨rfl, trivial⟩,
  ⟨rfl, trivial⟩,
  ⟨rfl, Or.inr rfl⟩,
  ⟨rfl, (by decide : Int32.ofInt (-1) = (-1))⟩,
  ⟨rfl, Or.inr rfl⟩, trivial⟩⟩
-- PartitionKernel$Frame.<init>
set_option maxRecDepth 100000 in
theorem dc_11 : ∀ en ∈ cd_11, decode prog_4_method_1_code en.1 = .ok (en.2.1, en.2.2.1 - en.1) := by decide +kernel
set_option maxRecDepth 100000 in
set_option maxHeartbeats 4000000 in
theorem ok_11 (cA : Nat → ClassId) : mq_okm pg_cl (pg_tys cA) (pg_E cA) pg_Z pg_sw pg_mx pg_X 11 cd_11 := ⟨by decide +kernel, by decide +kernel, mq_ok_of dc_11 ⟨⟨rfl, trivial⟩,
  ⟨rfl, rfl, gw_78 _, gw_67 _, gw_obj _⟩,
  ⟨rfl, trivial⟩,
  ⟨rfl, (by decide : (Int8.ofInt 8).toInt32 = 8)⟩,
  ⟨rfl, (by decide : 11 ≠ 999), (by decide : 8 ≤ 65536), Or.inl ⟨rfl, rfl, gw_96 _⟩⟩,
  ⟨rfl, _, _, _, _, okc_2 cA _, (by decide : 0 < 5), gw_79 _, Or.inr ⟨rfl, rfl, rfl⟩, ⟨rfl, Or.inr ⟨_, rfl⟩⟩⟩,
  ⟨rfl, trivial⟩,
  ⟨rfl, (by decide : (Int8.ofInt 8).toInt32 = 8)⟩,
  ⟨rfl, (by decide : 11 ≠ 999), (by decide : 8 ≤ 65536), Or.inl ⟨rfl, rfl, gw_96 _⟩⟩,
  ⟨rfl, _, _, _, _, okc_2 cA _, (by decide : 1 < 5), gw_80 _, Or.inr ⟨rfl, rfl, rfl⟩, ⟨rfl, Or.inr ⟨_, rfl⟩⟩⟩,
  ⟨rfl, rfl⟩, trivial⟩⟩
-- PartitionKernel$Frame.add
set_option maxRecDepth 100000 in
theorem dc_12 : ∀ en ∈ cd_12, decode prog_4_method_2_code en.1 = .ok (en.2.1, en.2.2.1 - en.1) := by decide +kernel
set_option maxRecDepth 100000 in
set_option maxHeartbeats 4000000 in
theorem ok_12 (cA : Nat → ClassId) : mq_okm pg_cl (pg_tys cA) (pg_E cA) pg_Z pg_sw pg_mx pg_X 12 cd_12 := ⟨by decide +kernel, by decide +kernel, mq_ok_of dc_12 ⟨⟨rfl, trivial⟩,
  ⟨rfl, _, _, _, _, okc_2 cA _, (by decide : 2 < 5), gw_81 _, trivial, ⟨rfl, rfl⟩⟩,
  ⟨rfl, (by decide : (Int8.ofInt 8).toInt32 = 8)⟩,
  ⟨rfl, (by decide : ((6 : Nat) : Int) + 5 = ((11 : Nat) : Int))⟩,
  ⟨rfl, (by decide : Int32.ofInt 0 = 0)⟩,
  ⟨rfl, Or.inl ⟨rfl, rfl⟩⟩,
  ⟨rfl, trivial⟩,
  ⟨rfl, _, _, _, _, okc_2 cA _, (by decide : 0 < 5), gw_79 _, trivial, ⟨rfl, Or.inr ⟨_, rfl⟩⟩⟩,
  ⟨rfl, trivial⟩,
  ⟨rfl, _, _, _, _, okc_2 cA _, (by decide : 2 < 5), gw_81 _, trivial, ⟨rfl, rfl⟩⟩,
  ⟨rfl, trivial⟩,
  ⟨rfl, trivial⟩,
  ⟨rfl, trivial⟩,
  ⟨rfl, _, _, _, _, okc_2 cA _, (by decide : 1 < 5), gw_80 _, trivial, ⟨rfl, Or.inr ⟨_, rfl⟩⟩⟩,
  ⟨rfl, trivial⟩,
  ⟨rfl, _, _, _, _, okc_2 cA _, (by decide : 2 < 5), gw_81 _, trivial, ⟨rfl, rfl⟩⟩,
  ⟨rfl, trivial⟩,
  ⟨rfl, trivial⟩,
  ⟨rfl, trivial⟩,
  ⟨rfl, trivial⟩,
  ⟨rfl, _, _, _, _, okc_2 cA _, (by decide : 2 < 5), gw_81 _, trivial, ⟨rfl, rfl⟩⟩,
  ⟨rfl, (by decide : Int32.ofInt 1 = 1)⟩,
  ⟨rfl, trivial⟩,
  ⟨rfl, _, _, _, _, okc_2 cA _, (by decide : 2 < 5), gw_81 _, Or.inl rfl, ⟨rfl, rfl⟩⟩,
  ⟨rfl, (by decide : Int32.ofInt 1 = 1)⟩,
  ⟨rfl, Or.inl ⟨rfl, rfl⟩⟩, trivial⟩⟩
-- PartitionKernel$Frame.owner
set_option maxRecDepth 100000 in
theorem dc_13 : ∀ en ∈ cd_13, decode prog_4_method_3_code en.1 = .ok (en.2.1, en.2.2.1 - en.1) := by decide +kernel
set_option maxRecDepth 100000 in
set_option maxHeartbeats 4000000 in
theorem ok_13 (cA : Nat → ClassId) : mq_okm pg_cl (pg_tys cA) (pg_E cA) pg_Z pg_sw pg_mx pg_X 13 cd_13 := ⟨by decide +kernel, by decide +kernel, mq_ok_of dc_13 ⟨⟨rfl, trivial⟩,
  ⟨rfl, _, _, _, _, okc_2 cA _, (by decide : 3 < 5), gw_83 _, trivial, ⟨rfl, rfl⟩⟩,
  ⟨rfl, trivial⟩,
  ⟨rfl, _, _, _, _, okc_2 cA _, (by decide : 2 < 5), gw_81 _, trivial, ⟨rfl, rfl⟩⟩,
  ⟨rfl, (by decide : ((8 : Nat) : Int) + 15 = ((23 : Nat) : Int))⟩,
  ⟨rfl, trivial⟩,
  ⟨rfl, _, _, _, _, okc_2 cA _, (by decide : 0 < 5), gw_79 _, trivial, ⟨rfl, Or.inr ⟨_, rfl⟩⟩⟩,
  ⟨rfl, trivial⟩,
  ⟨rfl, _, _, _, _, okc_2 cA _, (by decide : 3 < 5), gw_83 _, trivial, ⟨rfl, rfl⟩⟩,
  ⟨rfl, trivial⟩,
  ⟨rfl, (by decide : ((20 : Nat) : Int) + 4 = ((24 : Nat) : Int))⟩,
  ⟨rfl, (by decide : Int32.ofInt (-1) = (-1))⟩,
  ⟨rfl, Or.inr rfl⟩, trivial⟩⟩
-- PartitionKernel$Frame.advance
set_option maxRecDepth 100000 in
theorem dc_14 : ∀ en ∈ cd_14, decode prog_4_method_4_code en.1 = .ok (en.2.1, en.2.2.1 - en.1) := by decide +kernel
set_option maxRecDepth 100000 in
set_option maxHeartbeats 4000000 in
theorem ok_14 (cA : Nat → ClassId) : mq_okm pg_cl (pg_tys cA) (pg_E cA) pg_Z pg_sw pg_mx pg_X 14 cd_14 := ⟨by decide +kernel, by decide +kernel, mq_ok_of dc_14 ⟨⟨rfl, trivial⟩,
  ⟨rfl, _, _, _, _, okc_2 cA _, (by decide : 3 < 5), gw_83 _, trivial, ⟨rfl, rfl⟩⟩,
  ⟨rfl, trivial⟩,
  ⟨rfl, _, _, _, _, okc_2 cA _, (by decide : 2 < 5), gw_81 _, trivial, ⟨rfl, rfl⟩⟩,
  ⟨rfl, (by decide : ((8 : Nat) : Int) + 4 = ((12 : Nat) : Int))⟩,
  ⟨rfl, rfl⟩,
  ⟨rfl, trivial⟩,
  ⟨rfl, trivial⟩,
  ⟨rfl, _, _, _, _, okc_2 cA _, (by decide : 4 < 5), gw_84 _, trivial, ⟨rfl, rfl⟩⟩,
  ⟨rfl, (by decide : Int32.ofInt 1 = 1)⟩,
  ⟨rfl, trivial⟩,
  ⟨rfl, _, _, _, _, okc_2 cA _, (by decide : 4 < 5), gw_84 _, Or.inl rfl, ⟨rfl, rfl⟩⟩,
  ⟨rfl, trivial⟩,
  ⟨rfl, _, _, _, _, okc_2 cA _, (by decide : 4 < 5), gw_84 _, trivial, ⟨rfl, rfl⟩⟩,
  ⟨rfl, trivial⟩,
  ⟨rfl, _, _, _, _, okc_2 cA _, (by decide : 1 < 5), gw_80 _, trivial, ⟨rfl, Or.inr ⟨_, rfl⟩⟩⟩,
  ⟨rfl, trivial⟩,
  ⟨rfl, _, _, _, _, okc_2 cA _, (by decide : 3 < 5), gw_83 _, trivial, ⟨rfl, rfl⟩⟩,
  ⟨rfl, trivial⟩,
  ⟨rfl, (by decide : ((35 : Nat) : Int) + 35 = ((70 : Nat) : Int))⟩,
  ⟨rfl, trivial⟩,
  ⟨rfl, (by decide : Int32.ofInt 0 = 0)⟩,
  ⟨rfl, _, _, _, _, okc_2 cA _, (by decide : 4 < 5), gw_84 _, Or.inl rfl, ⟨rfl, rfl⟩⟩,
  ⟨rfl, trivial⟩,
  ⟨rfl, trivial⟩,
  ⟨rfl, _, _, _, _, okc_2 cA _, (by decide : 3 < 5), gw_83 _, trivial, ⟨rfl, rfl⟩⟩,
  ⟨rfl, (by decide : Int32.ofInt 1 = 1)⟩,
  ⟨rfl, trivial⟩,
  ⟨rfl, trivial⟩,
  ⟨rfl, _, _, _, _, okc_2 cA _, (by decide : 2 < 5), gw_81 _, trivial, ⟨rfl, rfl⟩⟩,
  ⟨rfl, (by decide : ((54 : Nat) : Int) + 12 = ((66 : Nat) : Int))⟩,
  ⟨rfl, trivial⟩,
  ⟨rfl, _, _, _, _, okc_2 cA _, (by decide : 3 < 5), gw_83 _, trivial, ⟨rfl, rfl⟩⟩,
  ⟨rfl, (by decide : Int32.ofInt 1 = 1)⟩,
  ⟨rfl, trivial⟩,
  ⟨rfl, (by decide : ((63 : Nat) : Int) + 4 = ((67 : Nat) : Int))⟩,
  ⟨rfl, (by decide : Int32.ofInt 0 = 0)⟩,
  ⟨rfl, _, _, _, _, okc_2 cA _, (by decide : 3 < 5), gw_83 _, Or.inl rfl, ⟨rfl, rfl⟩⟩,
  ⟨rfl, rfl⟩, trivial⟩⟩
-- PartitionKernel$Memory.<init>
set_option maxRecDepth 100000 in
theorem dc_15 : ∀ en ∈ cd_15, decode prog_6_method_1_code en.1 = .ok (en.2.1, en.2.2.1 - en.1) := by decide +kernel
set_option maxRecDepth 100000 in
set_option maxHeartbeats 4000000 in
theorem ok_15 (cA : Nat → ClassId) : mq_okm pg_cl (pg_tys cA) (pg_E cA) pg_Z pg_sw pg_mx pg_X 15 cd_15 := ⟨by decide +kernel, by decide +kernel, mq_ok_of dc_15 ⟨⟨rfl, trivial⟩,
  ⟨rfl, rfl, gw_136 _, gw_67 _, gw_obj _⟩,
  ⟨rfl, trivial⟩,
  ⟨rfl, (by decide : (Int16.ofInt 256).toInt32 = 256)⟩,
  ⟨rfl, (by decide : 15 ≠ 999), (by decide : 256 ≤ 65536), Or.inl ⟨rfl, rfl, gw_96 _⟩⟩,
  ⟨rfl, _, _, _, _, okc_3 cA _, (by decide : 0 < 1), gw_137 _, Or.inr ⟨rfl, rfl, rfl⟩, ⟨rfl, Or.inr ⟨_, rfl⟩⟩⟩,
  ⟨rfl, rfl⟩, trivial⟩⟩
-- PartitionKernel$Memory.holds
set_option maxRecDepth 100000 in
theorem dc_16 : ∀ en ∈ cd_16, decode prog_6_method_2_code en.1 = .ok (en.2.1, en.2.2.1 - en.1) := by decide +kernel
set_option maxRecDepth 100000 in
set_option maxHeartbeats 4000000 in
theorem ok_16 (cA : Nat → ClassId) : mq_okm pg_cl (pg_tys cA) (pg_E cA) pg_Z pg_sw pg_mx pg_X 16 cd_16 := ⟨by decide +kernel, by decide +kernel, mq_ok_of dc_16 ⟨⟨rfl, trivial⟩,
  ⟨rfl, (by decide : ((1 : Nat) : Int) + 22 = ((23 : Nat) : Int))⟩,
  ⟨rfl, trivial⟩,
  ⟨rfl, (by decide : (Int16.ofInt 1024).toInt32 = 1024)⟩,
  ⟨rfl, (by decide : ((8 : Nat) : Int) + 15 = ((23 : Nat) : Int))⟩,
  ⟨rfl, trivial⟩,
  ⟨rfl, trivial⟩,
  ⟨rfl, (by decide : Int32.ofInt 1 = 1)⟩,
  ⟨rfl, trivial⟩,
  ⟨rfl, trivial⟩,
  ⟨rfl, (by decide : ((16 : Nat) : Int) + 7 = ((23 : Nat) : Int))⟩,
  ⟨rfl, (by decide : Int32.ofInt 1 = 1)⟩,
  ⟨rfl, (by decide : ((20 : Nat) : Int) + 4 = ((24 : Nat) : Int))⟩,
  ⟨rfl, (by decide : Int32.ofInt 0 = 0)⟩,
  ⟨rfl, Or.inl ⟨rfl, rfl⟩⟩, trivial⟩⟩
-- PartitionKernel$Memory.readWord
set_option maxRecDepth 100000 in
theorem dc_17 : ∀ en ∈ cd_17, decode prog_6_method_3_code en.1 = .ok (en.2.1, en.2.2.1 - en.1) := by decide +kernel
set_option maxRecDepth 100000 in
set_option maxHeartbeats 4000000 in
theorem ok_17 (cA : Nat → ClassId) : mq_okm pg_cl (pg_tys cA) (pg_E cA) pg_Z pg_sw pg_mx pg_X 17 cd_17 := ⟨by decide +kernel, by decide +kernel, mq_ok_of dc_17 ⟨⟨rfl, trivial⟩,
  ⟨rfl, (by decide : Int32.ofInt 4 = 4)⟩,
  ⟨rfl, ⟨okg 16 _ gc_16, gw_49 _, Or.inl (gw_314 _), ⟨by decide +kernel, by decide +kernel, by decide +kernel⟩, by decide +kernel⟩, gw_315 _⟩,
  ⟨rfl, (by decide : ((5 : Nat) : Int) + 14 = ((19 : Nat) : Int))⟩,
  ⟨rfl, trivial⟩,
  ⟨rfl, _, _, _, _, okc_3 cA _, (by decide : 0 < 1), gw_137 _, trivial, ⟨rfl, Or.inr ⟨_, rfl⟩⟩⟩,
  ⟨rfl, trivial⟩,
  ⟨rfl, (by decide : Int32.ofInt 2 = 2)⟩,
  ⟨rfl, trivial⟩,
  ⟨rfl, trivial⟩,
  ⟨rfl, (by decide : ((16 : Nat) : Int) + 4 = ((20 : Nat) : Int))⟩,
  ⟨rfl, (by decide : Int32.ofInt 0 = 0)⟩,
  ⟨rfl, Or.inr rfl⟩, trivial⟩⟩
-- PartitionKernel$Memory.writeWord
set_option maxRecDepth 100000 in
theorem dc_18 : ∀ en ∈ cd_18, decode prog_6_method_4_code en.1 = .ok (en.2.1, en.2.2.1 - en.1) := by decide +kernel
set_option maxRecDepth 100000 in
set_option maxHeartbeats 4000000 in
theorem ok_18 (cA : Nat → ClassId) : mq_okm pg_cl (pg_tys cA) (pg_E cA) pg_Z pg_sw pg_mx pg_X 18 cd_18 := ⟨by decide +kernel, by decide +kernel, mq_ok_of dc_18 ⟨⟨rfl, trivial⟩,
  ⟨rfl, (by decide : Int32.ofInt 4 = 4)⟩,
  ⟨rfl, ⟨okg 16 _ gc_16, gw_49 _, Or.inl (gw_314 _), ⟨by decide +kernel, by decide +kernel, by decide +kernel⟩, by decide +kernel⟩, gw_315 _⟩,
  ⟨rfl, (by decide : ((5 : Nat) : Int) + 12 = ((17 : Nat) : Int))⟩,
  ⟨rfl, trivial⟩,
  ⟨rfl, _, _, _, _, okc_3 cA _, (by decide : 0 < 1), gw_137 _, trivial, ⟨rfl, Or.inr ⟨_, rfl⟩⟩⟩,
  ⟨rfl, trivial⟩,
  ⟨rfl, (by decide : Int32.ofInt 2 = 2)⟩,
  ⟨rfl, trivial⟩,
  ⟨rfl, trivial⟩,
  ⟨rfl, trivial⟩,
  ⟨rfl, rfl⟩, trivial⟩⟩
-- PartitionKernel$Memory.readFrom
set_option maxRecDepth 100000 in
theorem dc_19 : ∀ en ∈ cd_19, decode prog_6_method_5_code en.1 = .ok (en.2.1, en.2.2.1 - en.1) := by decide +kernel
set_option maxRecDepth 100000 in
set_option maxHeartbeats 4000000 in
theorem ok_19 (cA : Nat → ClassId) : mq_okm pg_cl (pg_tys cA) (pg_E cA) pg_Z pg_sw pg_mx pg_X 19 cd_19 := ⟨by decide +kernel, by decide +kernel, mq_ok_of dc_19 ⟨⟨rfl, trivial⟩,
  ⟨rfl, trivial⟩,
  ⟨rfl, (by decide : (Int8.ofInt (-4)).toInt32 = (-4))⟩,
  ⟨rfl, trivial⟩,
  ⟨rfl, 1, _, rfl, ⟨okg 17 _ gc_17, gw_49 _, gw_703 _, ⟨by decide +kernel, by decide +kernel, by decide +kernel⟩, by decide +kernel⟩, gw_311 _, rfl, gw_312 _⟩,
  ⟨rfl, trivial⟩,
  ⟨rfl, ⟨okg 21 _ gc_21, gw_49 _, Or.inl (gw_704 _), ⟨by decide +kernel, by decide +kernel, by decide +kernel⟩, by decide +kernel⟩, gw_705 _⟩,
  ⟨rfl, trivial⟩,
  ⟨rfl, Or.inr rfl⟩, trivial⟩⟩
-- PartitionKernel$Memory.write
set_option maxRecDepth 100000 in
theorem dc_20 : ∀ en ∈ cd_20, decode prog_6_method_6_code en.1 = .ok (en.2.1, en.2.2.1 - en.1) := by decide +kernel
set_option maxRecDepth 100000 in
set_option maxHeartbeats 4000000 in
theorem ok_20 (cA : Nat → ClassId) : mq_okm pg_cl (pg_tys cA) (pg_E cA) pg_Z pg_sw pg_mx pg_X 20 cd_20 := ⟨by decide +kernel, by decide +kernel, mq_ok_of dc_20 ⟨⟨rfl, trivial⟩,
  ⟨rfl, (by decide : Int32.ofInt 4 = 4)⟩,
  ⟨rfl, (by decide : ((2 : Nat) : Int) + 7 = ((9 : Nat) : Int))⟩,
  ⟨rfl, (by decide : Int32.ofInt (-1) = (-1))⟩,
  ⟨rfl, (by decide : ((6 : Nat) : Int) + 11 = ((17 : Nat) : Int))⟩,
  ⟨rfl, (by decide : Int32.ofInt 1 = 1)⟩,
  ⟨rfl, trivial⟩,
  ⟨rfl, (by decide : (Int8.ofInt 8).toInt32 = 8)⟩,
  ⟨rfl, trivial⟩,
  ⟨rfl, trivial⟩,
  ⟨rfl, (by decide : Int32.ofInt 1 = 1)⟩,
  ⟨rfl, trivial⟩,
  ⟨rfl, (by decide : 4 < 7)⟩,
  ⟨rfl, trivial⟩,
  ⟨rfl, trivial⟩,
  ⟨rfl, ⟨okg 21 _ gc_21, gw_49 _, Or.inl (gw_704 _), ⟨by decide +kernel, by decide +kernel, by decide +kernel⟩, by decide +kernel⟩, gw_705 _⟩,
  ⟨rfl, trivial⟩,
  ⟨rfl, (by decide : 5 < 7)⟩,
  ⟨rfl, trivial⟩,
  ⟨rfl, trivial⟩,
  ⟨rfl, (by decide : (Int8.ofInt (-4)).toInt32 = (-4))⟩,
  ⟨rfl, trivial⟩,
  ⟨rfl, 1, _, rfl, ⟨okg 17 _ gc_17, gw_49 _, gw_703 _, ⟨by decide +kernel, by decide +kernel, by decide +kernel⟩, by decide +kernel⟩, gw_311 _, rfl, gw_312 _⟩,
  ⟨rfl, trivial⟩,
  ⟨rfl, (by decide : Int32.ofInt (-1) = (-1))⟩,
  ⟨rfl, trivial⟩,
  ⟨rfl, trivial⟩,
  ⟨rfl, (by decide : 6 < 7)⟩,
  ⟨rfl, trivial⟩,
  ⟨rfl, trivial⟩,
  ⟨rfl, (by decide : (Int8.ofInt (-4)).toInt32 = (-4))⟩,
  ⟨rfl, trivial⟩,
  ⟨rfl, trivial⟩,
  ⟨rfl, trivial⟩,
  ⟨rfl, trivial⟩,
  ⟨rfl, ⟨okg 21 _ gc_21, gw_49 _, Or.inl (gw_704 _), ⟨by decide +kernel, by decide +kernel, by decide +kernel⟩, by decide +kernel⟩, gw_705 _⟩,
  ⟨rfl, trivial⟩,
  ⟨rfl, trivial⟩,
  ⟨rfl, trivial⟩,
  ⟨rfl, trivial⟩,
  ⟨rfl, 2, _, rfl, ⟨okg 18 _ gc_18, gw_49 _, gw_721 _, ⟨by decide +kernel, by decide +kernel, by decide +kernel⟩, by decide +kernel⟩, gw_571 _, rfl, gw_572 _⟩,
  ⟨rfl, rfl⟩, trivial⟩⟩
end
section
/-! Rows of methods, by program. -/
-- PartitionKernel$Memory.shiftOf
set_option maxRecDepth 100000 in
theorem dc_21 : ∀ en ∈ cd_21, decode prog_6_method_7_code en.1 = .ok (en.2.1, en.2.2.1 - en.1) := by decide +kernel
set_option maxRecDepth 100000 in
set_option maxHeartbeats 4000000 in
theorem ok_21 (cA : Nat → ClassId) : mq_okm pg_cl (pg_tys cA) (pg_E cA) pg_Z pg_sw pg_mx pg_X 21 cd_21 := ⟨by decide +kernel, by decide +kernel, mq_ok_of dc_21 ⟨⟨rfl, trivial⟩,
  ⟨rfl, (by decide : Int32.ofInt 3 = 3)⟩,
  ⟨rfl, trivial⟩,
  ⟨rfl, (by decide : (Int8.ofInt 8).toInt32 = 8)⟩,
  ⟨rfl, trivial⟩,
  ⟨rfl, Or.inr rfl⟩, trivial⟩⟩
-- PartitionKernel$Partition.<init>
set_option maxRecDepth 100000 in
theorem dc_22 : ∀ en ∈ cd_22, decode prog_7_method_1_code en.1 = .ok (en.2.1, en.2.2.1 - en.1) := by decide +kernel
set_option maxRecDepth 100000 in
set_option maxHeartbeats 4000000 in
theorem ok_22 (cA : Nat → ClassId) : mq_okm pg_cl (pg_tys cA) (pg_E cA) pg_Z pg_sw pg_mx pg_X 22 cd_22 := ⟨by decide +kernel, by decide +kernel, mq_ok_of dc_22 ⟨⟨rfl, trivial⟩,
  ⟨rfl, rfl, gw_130 _, gw_67 _, gw_obj _⟩,
  ⟨rfl, trivial⟩,
  ⟨rfl, fun _ => ⟨(by decide : 3 ≠ 999), _, _, _, _, okc_3 cA _, gw_131 _, gw_132 _, gw_49 _⟩⟩,
  ⟨rfl, trivial⟩,
  ⟨rfl, 0, rfl, ⟨okg 15 _ gc_15, gw_49 _, Or.inr ⟨_, pX_133⟩, ⟨by decide +kernel, by decide +kernel, by decide +kernel⟩, by decide +kernel⟩, rfl, gw_134 _, rfl⟩,
  ⟨rfl, _, _, _, _, okc_4 cA _, (by decide : 1 < 9), gw_208 _, Or.inr ⟨rfl, rfl, rfl⟩, ⟨rfl, Or.inl ⟨_, rfl⟩⟩⟩,
  ⟨rfl, trivial⟩,
  ⟨rfl, (by decide : (Int8.ofInt 8).toInt32 = 8)⟩,
  ⟨rfl, (by decide : 22 ≠ 999), (by decide : 8 ≤ 65536), rfl, _, 6, rfl, gw_141 _, pX_ao6⟩,
  ⟨rfl, _, _, _, _, okc_4 cA _, (by decide : 2 < 9), gw_210 _, Or.inr ⟨rfl, rfl, rfl⟩, ⟨rfl, Or.inr ⟨_, rfl⟩⟩⟩,
  ⟨rfl, trivial⟩,
  ⟨rfl, (by decide : Int32.ofInt 4 = 4)⟩,
  ⟨rfl, (by decide : 10 ≠ 999), (by decide : 4 ≤ 65536), Or.inl ⟨rfl, rfl, gw_96 _⟩⟩,
  ⟨rfl, _, _, _, _, okc_4 cA _, (by decide : 3 < 9), gw_212 _, Or.inr ⟨rfl, rfl, rfl⟩, ⟨rfl, Or.inr ⟨_, rfl⟩⟩⟩,
  ⟨rfl, trivial⟩,
  ⟨rfl, (by decide : Int32.ofInt 4 = 4)⟩,
  ⟨rfl, (by decide : 10 ≠ 999), (by decide : 4 ≤ 65536), Or.inl ⟨rfl, rfl, gw_96 _⟩⟩,
  ⟨rfl, _, _, _, _, okc_4 cA _, (by decide : 4 < 9), gw_213 _, Or.inr ⟨rfl, rfl, rfl⟩, ⟨rfl, Or.inr ⟨_, rfl⟩⟩⟩,
  ⟨rfl, trivial⟩,
  ⟨rfl, trivial⟩,
  ⟨rfl, _, _, _, _, okc_4 cA _, (by decide : 0 < 9), gw_206 _, Or.inr ⟨rfl, rfl, rfl⟩, ⟨rfl, rfl⟩⟩,
  ⟨rfl, (by decide : Int32.ofInt 0 = 0)⟩,
  ⟨rfl, (by decide : 2 < 3)⟩,
  ⟨rfl, trivial⟩,
  ⟨rfl, (by decide : (Int8.ofInt 8).toInt32 = 8)⟩,
  ⟨rfl, (by decide : ((48 : Nat) : Int) + 23 = ((71 : Nat) : Int))⟩,
  ⟨rfl, trivial⟩,
  ⟨rfl, _, _, _, _, okc_4 cA _, (by decide : 2 < 9), gw_210 _, trivial, ⟨rfl, Or.inr ⟨_, rfl⟩⟩⟩,
  ⟨rfl, trivial⟩,
  ⟨rfl, fun _ => ⟨(by decide : 5 ≠ 999), _, _, _, _, okc_5 cA _, gw_141 _, gw_143 _, gw_50 _⟩⟩,
  ⟨rfl, trivial⟩,
  ⟨rfl, trivial⟩,
  ⟨rfl, 1, rfl, ⟨okg 42 _ gc_42, gw_50 _, Or.inl (gw_144 _), ⟨by decide +kernel, by decide +kernel, by decide +kernel⟩, by decide +kernel⟩, rfl, gw_145 _, rfl⟩,
  ⟨rfl, trivial⟩,
  ⟨rfl, (by decide : 2 < 3), (by decide : Int32.ofInt 1 = 1)⟩,
  ⟨rfl, (by decide : ((68 : Nat) : Int) + (-23) = ((45 : Nat) : Int))⟩,
  ⟨rfl, rfl⟩, trivial⟩⟩
-- PartitionKernel$Partition.add
set_option maxRecDepth 100000 in
theorem dc_23 : ∀ en ∈ cd_23, decode prog_7_method_2_code en.1 = .ok (en.2.1, en.2.2.1 - en.1) := by decide +kernel
set_option maxRecDepth 100000 in
set_option maxHeartbeats 4000000 in
theorem ok_23 (cA : Nat → ClassId) : mq_okm pg_cl (pg_tys cA) (pg_E cA) pg_Z pg_sw pg_mx pg_X 23 cd_23 := ⟨by decide +kernel, by decide +kernel, mq_ok_of dc_23 ⟨⟨rfl, trivial⟩,
  ⟨rfl, _, _, _, _, okc_4 cA _, (by decide : 5 < 9), gw_215 _, trivial, ⟨rfl, rfl⟩⟩,
  ⟨rfl, (by decide : (Int8.ofInt 8).toInt32 = 8)⟩,
  ⟨rfl, (by decide : ((6 : Nat) : Int) + 5 = ((11 : Nat) : Int))⟩,
  ⟨rfl, (by decide : Int32.ofInt (-1) = (-1))⟩,
  ⟨rfl, Or.inr rfl⟩,
  ⟨rfl, trivial⟩,
  ⟨rfl, _, _, _, _, okc_4 cA _, (by decide : 2 < 9), gw_210 _, trivial, ⟨rfl, Or.inr ⟨_, rfl⟩⟩⟩,
  ⟨rfl, trivial⟩,
  ⟨rfl, _, _, _, _, okc_4 cA _, (by decide : 5 < 9), gw_215 _, trivial, ⟨rfl, rfl⟩⟩,
  ⟨rfl, trivial⟩,
  ⟨rfl, (by decide : 5 < 6)⟩,
  ⟨rfl, trivial⟩,
  ⟨rfl, trivial⟩,
  ⟨rfl, _, _, _, _, okc_5 cA _, (by decide : 2 < 14), gw_152 _, Or.inl rfl, ⟨rfl, rfl⟩⟩,
  ⟨rfl, trivial⟩,
  ⟨rfl, trivial⟩,
  ⟨rfl, _, _, _, _, okc_5 cA _, (by decide : 3 < 14), gw_154 _, Or.inl rfl, ⟨rfl, rfl⟩⟩,
  ⟨rfl, trivial⟩,
  ⟨rfl, trivial⟩,
  ⟨rfl, _, _, _, _, okc_5 cA _, (by decide : 4 < 14), gw_156 _, Or.inl rfl, ⟨rfl, rfl⟩⟩,
  ⟨rfl, trivial⟩,
  ⟨rfl, trivial⟩,
  ⟨rfl, _, _, _, _, okc_5 cA _, (by decide : 5 < 14), gw_157 _, Or.inl rfl, ⟨rfl, rfl⟩⟩,
  ⟨rfl, trivial⟩,
  ⟨rfl, trivial⟩,
  ⟨rfl, _, _, _, _, okc_4 cA _, (by decide : 5 < 9), gw_215 _, trivial, ⟨rfl, rfl⟩⟩,
  ⟨rfl, (by decide : Int32.ofInt 1 = 1)⟩,
  ⟨rfl, trivial⟩,
  ⟨rfl, _, _, _, _, okc_4 cA _, (by decide : 5 < 9), gw_215 _, Or.inl rfl, ⟨rfl, rfl⟩⟩,
  ⟨rfl, trivial⟩,
  ⟨rfl, _, _, _, _, okc_5 cA _, (by decide : 0 < 14), gw_149 _, trivial, ⟨rfl, rfl⟩⟩,
  ⟨rfl, Or.inr rfl⟩, trivial⟩⟩
-- PartitionKernel$Partition.find
set_option maxRecDepth 100000 in
theorem dc_24 : ∀ en ∈ cd_24, decode prog_7_method_3_code en.1 = .ok (en.2.1, en.2.2.1 - en.1) := by decide +kernel
set_option maxRecDepth 100000 in
set_option maxHeartbeats 4000000 in
theorem ok_24 (cA : Nat → ClassId) : mq_okm pg_cl (pg_tys cA) (pg_E cA) pg_Z pg_sw pg_mx pg_X 24 cd_24 := ⟨by decide +kernel, by decide +kernel, mq_ok_of dc_24 ⟨⟨rfl, trivial⟩,
  ⟨rfl, (by decide : ((1 : Nat) : Int) + 20 = ((21 : Nat) : Int))⟩,
  ⟨rfl, trivial⟩,
  ⟨rfl, trivial⟩,
  ⟨rfl, _, _, _, _, okc_4 cA _, (by decide : 5 < 9), gw_215 _, trivial, ⟨rfl, rfl⟩⟩,
  ⟨rfl, (by decide : ((9 : Nat) : Int) + 12 = ((21 : Nat) : Int))⟩,
  ⟨rfl, trivial⟩,
  ⟨rfl, _, _, _, _, okc_4 cA _, (by decide : 2 < 9), gw_210 _, trivial, ⟨rfl, Or.inr ⟨_, rfl⟩⟩⟩,
  ⟨rfl, trivial⟩,
  ⟨rfl, trivial⟩,
  ⟨rfl, (by decide : ((18 : Nat) : Int) + 4 = ((22 : Nat) : Int))⟩,
  ⟨rfl, trivial⟩,
  ⟨rfl, _, rfl, Or.inl ⟨_, rfl⟩⟩, trivial⟩⟩
-- PartitionKernel$Partition.actionFor
set_option maxRecDepth 100000 in
theorem dc_25 : ∀ en ∈ cd_25, decode prog_7_method_4_code en.1 = .ok (en.2.1, en.2.2.1 - en.1) := by decide +kernel
set_option maxRecDepth 100000 in
set_option maxHeartbeats 4000000 in
theorem ok_25 (cA : Nat → ClassId) : mq_okm pg_cl (pg_tys cA) (pg_E cA) pg_Z pg_sw pg_mx pg_X 25 cd_25 := ⟨by decide +kernel, by decide +kernel, mq_ok_of dc_25 ⟨⟨rfl, trivial⟩,
  ⟨rfl, (by decide : ((1 : Nat) : Int) + 17 = ((18 : Nat) : Int))⟩,
  ⟨rfl, trivial⟩,
  ⟨rfl, (by decide : Int32.ofInt 4 = 4)⟩,
  ⟨rfl, (by decide : ((6 : Nat) : Int) + 12 = ((18 : Nat) : Int))⟩,
  ⟨rfl, trivial⟩,
  ⟨rfl, _, _, _, _, okc_4 cA _, (by decide : 4 < 9), gw_213 _, trivial, ⟨rfl, Or.inr ⟨_, rfl⟩⟩⟩,
  ⟨rfl, trivial⟩,
  ⟨rfl, trivial⟩,
  ⟨rfl, (by decide : ((15 : Nat) : Int) + 4 = ((19 : Nat) : Int))⟩,
  ⟨rfl, (by decide : Int32.ofInt 0 = 0)⟩,
  ⟨rfl, Or.inr rfl⟩, trivial⟩⟩
-- PartitionKernel$Partition.tell
set_option maxRecDepth 100000 in
theorem dc_26 : ∀ en ∈ cd_26, decode prog_7_method_5_code en.1 = .ok (en.2.1, en.2.2.1 - en.1) := by decide +kernel
set_option maxRecDepth 100000 in
set_option maxHeartbeats 4000000 in
theorem ok_26 (cA : Nat → ClassId) : mq_okm pg_cl (pg_tys cA) (pg_E cA) pg_Z pg_sw pg_mx pg_X 26 cd_26 := ⟨by decide +kernel, by decide +kernel, mq_ok_of dc_26 ⟨⟨rfl, trivial⟩,
  ⟨by decide, by decide, by decide, by decide, by decide, by decide, by decide, by decide, by decide, by decide, trivial⟩,
  ⟨rfl, trivial⟩,
  ⟨rfl, _, _, _, _, okc_4 cA _, (by decide : 8 < 9), gw_220 _, trivial, ⟨rfl, rfl⟩⟩,
  ⟨rfl, (by decide : ((36 : Nat) : Int) + 7 = ((43 : Nat) : Int))⟩,
  ⟨rfl, (by decide : Int32.ofInt 1 = 1)⟩,
  ⟨rfl, (by decide : ((40 : Nat) : Int) + 4 = ((44 : Nat) : Int))⟩,
  ⟨rfl, (by decide : Int32.ofInt 0 = 0)⟩,
  ⟨rfl, Or.inr rfl⟩,
  ⟨rfl, trivial⟩,
  ⟨rfl, _, _, _, _, okc_4 cA _, (by decide : 5 < 9), gw_215 _, trivial, ⟨rfl, rfl⟩⟩,
  ⟨rfl, Or.inr rfl⟩,
  ⟨rfl, trivial⟩,
  ⟨rfl, 0, _, rfl, ⟨okg 38 _ gc_38, gw_48 _, gw_349 _, ⟨by decide +kernel, by decide +kernel, by decide +kernel⟩, by decide +kernel⟩, gw_351 _, rfl, gw_2 _⟩,
  ⟨rfl, Or.inr rfl⟩,
  ⟨rfl, trivial⟩,
  ⟨rfl, _, _, _, _, okc_4 cA _, (by decide : 7 < 9), gw_218 _, trivial, ⟨rfl, rfl⟩⟩,
  ⟨rfl, Or.inr rfl⟩,
  ⟨rfl, trivial⟩,
  ⟨rfl, (by decide : Int32.ofInt 4 = 4)⟩,
  ⟨rfl, trivial⟩,
  ⟨rfl, ⟨okg 39 _ gc_39, gw_48 _, Or.inl (gw_361 _), ⟨by decide +kernel, by decide +kernel, by decide +kernel⟩, by decide +kernel⟩, gw_362 _⟩,
  ⟨rfl, (by decide : ((66 : Nat) : Int) + 14 = ((80 : Nat) : Int))⟩,
  ⟨rfl, trivial⟩,
  ⟨rfl, _, _, _, _, okc_4 cA _, (by decide : 3 < 9), gw_212 _, trivial, ⟨rfl, Or.inr ⟨_, rfl⟩⟩⟩,
  ⟨rfl, trivial⟩,
  ⟨rfl, (by decide : Int32.ofInt 4 = 4)⟩,
  ⟨rfl, trivial⟩,
  ⟨rfl, trivial⟩,
  ⟨rfl, (by decide : ((77 : Nat) : Int) + 4 = ((81 : Nat) : Int))⟩,
  ⟨rfl, (by decide : Int32.ofInt (-1) = (-1))⟩,
  ⟨rfl, Or.inr rfl⟩, trivial⟩⟩
-- PartitionKernel$Partition.start
set_option maxRecDepth 100000 in
theorem dc_27 : ∀ en ∈ cd_27, decode prog_7_method_6_code en.1 = .ok (en.2.1, en.2.2.1 - en.1) := by decide +kernel
set_option maxRecDepth 100000 in
set_option maxHeartbeats 4000000 in
theorem ok_27 (cA : Nat → ClassId) : mq_okm pg_cl (pg_tys cA) (pg_E cA) pg_Z pg_sw pg_mx pg_X 27 cd_27 := ⟨by decide +kernel, by decide +kernel, mq_ok_of dc_27 ⟨⟨rfl, trivial⟩,
  ⟨rfl, 0, _, rfl, ⟨okg 45 _ gc_45, gw_50 _, gw_590 _, ⟨by decide +kernel, by decide +kernel, by decide +kernel⟩, by decide +kernel⟩, gw_591 _, rfl, gw_592 _⟩,
  ⟨rfl, trivial⟩,
  ⟨rfl, trivial⟩,
  ⟨rfl, 1, _, rfl, ⟨okg 46 _ gc_46, gw_50 _, gw_594 _, ⟨by decide +kernel, by decide +kernel, by decide +kernel⟩, by decide +kernel⟩, gw_595 _, rfl, gw_596 _⟩,
  ⟨rfl, trivial⟩,
  ⟨rfl, trivial⟩,
  ⟨rfl, (by decide : Int32.ofInt 1 = 1)⟩,
  ⟨rfl, (by decide : Int32.ofInt (-1) = (-1))⟩,
  ⟨rfl, (by decide : Int32.ofInt (-1) = (-1))⟩,
  ⟨rfl, 4, _, rfl, ⟨okg 41 _ gc_41, gw_48 _, gw_598 _, ⟨by decide +kernel, by decide +kernel, by decide +kernel⟩, by decide +kernel⟩, gw_600 _, rfl, gw_6 _⟩,
  ⟨rfl, rfl⟩, trivial⟩⟩
-- PartitionKernel$Partition.startAll
set_option maxRecDepth 100000 in
theorem dc_28 : ∀ en ∈ cd_28, decode prog_7_method_7_code en.1 = .ok (en.2.1, en.2.2.1 - en.1) := by decide +kernel
set_option maxRecDepth 100000 in
set_option maxHeartbeats 4000000 in
theorem ok_28 (cA : Nat → ClassId) : mq_okm pg_cl (pg_tys cA) (pg_E cA) pg_Z pg_sw pg_mx pg_X 28 cd_28 := ⟨by decide +kernel, by decide +kernel, mq_ok_of dc_28 ⟨⟨rfl, (by decide : Int32.ofInt 0 = 0)⟩,
  ⟨rfl, (by decide : 2 < 3)⟩,
  ⟨rfl, trivial⟩,
  ⟨rfl, trivial⟩,
  ⟨rfl, _, _, _, _, okc_4 cA _, (by decide : 5 < 9), gw_215 _, trivial, ⟨rfl, rfl⟩⟩,
  ⟨rfl, (by decide : ((7 : Nat) : Int) + 20 = ((27 : Nat) : Int))⟩,
  ⟨rfl, trivial⟩,
  ⟨rfl, trivial⟩,
  ⟨rfl, _, _, _, _, okc_4 cA _, (by decide : 2 < 9), gw_210 _, trivial, ⟨rfl, Or.inr ⟨_, rfl⟩⟩⟩,
  ⟨rfl, trivial⟩,
  ⟨rfl, trivial⟩,
  ⟨rfl, trivial⟩,
  ⟨rfl, 2, _, rfl, ⟨okg 27 _ gc_27, gw_48 _, gw_586 _, ⟨by decide +kernel, by decide +kernel, by decide +kernel⟩, by decide +kernel⟩, gw_587 _, rfl, gw_588 _⟩,
  ⟨rfl, (by decide : 2 < 3), (by decide : Int32.ofInt 1 = 1)⟩,
  ⟨rfl, (by decide : ((24 : Nat) : Int) + (-22) = ((2 : Nat) : Int))⟩,
  ⟨rfl, (by decide : Int32.ofInt 0 = 0)⟩,
  ⟨rfl, (by decide : 2 < 3)⟩,
  ⟨rfl, trivial⟩,
  ⟨rfl, (by decide : Int32.ofInt 4 = 4)⟩,
  ⟨rfl, (by decide : ((31 : Nat) : Int) + 16 = ((47 : Nat) : Int))⟩,
  ⟨rfl, trivial⟩,
  ⟨rfl, _, _, _, _, okc_4 cA _, (by decide : 3 < 9), gw_212 _, trivial, ⟨rfl, Or.inr ⟨_, rfl⟩⟩⟩,
  ⟨rfl, trivial⟩,
  ⟨rfl, (by decide : Int32.ofInt 0 = 0)⟩,
  ⟨rfl, trivial⟩,
  ⟨rfl, (by decide : 2 < 3), (by decide : Int32.ofInt 1 = 1)⟩,
  ⟨rfl, (by decide : ((44 : Nat) : Int) + (-15) = ((29 : Nat) : Int))⟩,
  ⟨rfl, rfl⟩, trivial⟩⟩
-- PartitionKernel$Partition.rest
set_option maxRecDepth 100000 in
theorem dc_29 : ∀ en ∈ cd_29, decode prog_7_method_8_code en.1 = .ok (en.2.1, en.2.2.1 - en.1) := by decide +kernel
set_option maxRecDepth 100000 in
set_option maxHeartbeats 4000000 in
theorem ok_29 (cA : Nat → ClassId) : mq_okm pg_cl (pg_tys cA) (pg_E cA) pg_Z pg_sw pg_mx pg_X 29 cd_29 := ⟨by decide +kernel, by decide +kernel, mq_ok_of dc_29 ⟨⟨rfl, trivial⟩,
  ⟨rfl, (by decide : Int32.ofInt (-1) = (-1))⟩,
  ⟨rfl, _, _, _, _, okc_5 cA _, (by decide : 8 < 14), gw_165 _, Or.inl rfl, ⟨rfl, rfl⟩⟩,
  ⟨rfl, trivial⟩,
  ⟨rfl, trivial⟩,
  ⟨rfl, (by decide : Int32.ofInt 0 = 0)⟩,
  ⟨rfl, (by decide : Int32.ofInt (-1) = (-1))⟩,
  ⟨rfl, (by decide : Int32.ofInt (-1) = (-1))⟩,
  ⟨rfl, 4, _, rfl, ⟨okg 41 _ gc_41, gw_48 _, gw_598 _, ⟨by decide +kernel, by decide +kernel, by decide +kernel⟩, by decide +kernel⟩, gw_600 _, rfl, gw_6 _⟩,
  ⟨rfl, rfl⟩, trivial⟩⟩
-- PartitionKernel$Partition.wake
set_option maxRecDepth 100000 in
theorem dc_30 : ∀ en ∈ cd_30, decode prog_7_method_9_code en.1 = .ok (en.2.1, en.2.2.1 - en.1) := by decide +kernel
set_option maxRecDepth 100000 in
set_option maxHeartbeats 4000000 in
theorem ok_30 (cA : Nat → ClassId) : mq_okm pg_cl (pg_tys cA) (pg_E cA) pg_Z pg_sw pg_mx pg_X 30 cd_30 := ⟨by decide +kernel, by decide +kernel, mq_ok_of dc_30 ⟨⟨rfl, (by decide : Int32.ofInt 0 = 0)⟩,
  ⟨rfl, (by decide : 2 < 4)⟩,
  ⟨rfl, trivial⟩,
  ⟨rfl, trivial⟩,
  ⟨rfl, _, _, _, _, okc_4 cA _, (by decide : 5 < 9), gw_215 _, trivial, ⟨rfl, rfl⟩⟩,
  ⟨rfl, (by decide : ((7 : Nat) : Int) + 28 = ((35 : Nat) : Int))⟩,
  ⟨rfl, trivial⟩,
  ⟨rfl, trivial⟩,
  ⟨rfl, 1, _, rfl, ⟨okg 40 _ gc_40, gw_48 _, gw_619 _, ⟨by decide +kernel, by decide +kernel, by decide +kernel⟩, by decide +kernel⟩, gw_621 _, rfl, gw_8 _⟩,
  ⟨rfl, (by decide : 3 < 4)⟩,
  ⟨rfl, trivial⟩,
  ⟨rfl, (by decide : ((17 : Nat) : Int) + 4 = ((21 : Nat) : Int))⟩,
  ⟨rfl, rfl⟩,
  ⟨rfl, trivial⟩,
  ⟨rfl, trivial⟩,
  ⟨rfl, (by decide : Int32.ofInt 1 = 1)⟩,
  ⟨rfl, (by decide : Int32.ofInt (-1) = (-1))⟩,
  ⟨rfl, (by decide : Int32.ofInt (-1) = (-1))⟩,
  ⟨rfl, 4, _, rfl, ⟨okg 41 _ gc_41, gw_48 _, gw_598 _, ⟨by decide +kernel, by decide +kernel, by decide +kernel⟩, by decide +kernel⟩, gw_600 _, rfl, gw_6 _⟩,
  ⟨rfl, (by decide : 2 < 4), (by decide : Int32.ofInt 1 = 1)⟩,
  ⟨rfl, (by decide : ((32 : Nat) : Int) + (-30) = ((2 : Nat) : Int))⟩,
  ⟨rfl, rfl⟩, trivial⟩⟩
-- PartitionKernel$Partition.first
set_option maxRecDepth 100000 in
theorem dc_31 : ∀ en ∈ cd_31, decode prog_7_method_10_code en.1 = .ok (en.2.1, en.2.2.1 - en.1) := by decide +kernel
set_option maxRecDepth 100000 in
set_option maxHeartbeats 4000000 in
theorem ok_31 (cA : Nat → ClassId) : mq_okm pg_cl (pg_tys cA) (pg_E cA) pg_Z pg_sw pg_mx pg_X 31 cd_31 := ⟨by decide +kernel, by decide +kernel, mq_ok_of dc_31 ⟨⟨rfl, trivial⟩,
  ⟨rfl, (by decide : 3 < 6)⟩,
  ⟨rfl, (by decide : Int32.ofInt 0 = 0)⟩,
  ⟨rfl, (by decide : 4 < 6)⟩,
  ⟨rfl, trivial⟩,
  ⟨rfl, trivial⟩,
  ⟨rfl, _, _, _, _, okc_4 cA _, (by decide : 5 < 9), gw_215 _, trivial, ⟨rfl, rfl⟩⟩,
  ⟨rfl, (by decide : ((11 : Nat) : Int) + 48 = ((59 : Nat) : Int))⟩,
  ⟨rfl, trivial⟩,
  ⟨rfl, _, _, _, _, okc_4 cA _, (by decide : 2 < 9), gw_210 _, trivial, ⟨rfl, Or.inr ⟨_, rfl⟩⟩⟩,
  ⟨rfl, trivial⟩,
  ⟨rfl, trivial⟩,
  ⟨rfl, (by decide : 5 < 6)⟩,
  ⟨rfl, trivial⟩,
  ⟨rfl, _, _, _, _, okc_5 cA _, (by decide : 7 < 14), gw_163 _, trivial, ⟨rfl, rfl⟩⟩,
  ⟨rfl, trivial⟩,
  ⟨rfl, (by decide : ((29 : Nat) : Int) + 24 = ((53 : Nat) : Int))⟩,
  ⟨rfl, trivial⟩,
  ⟨rfl, _, _, _, _, okc_5 cA _, (by decide : 11 < 14), gw_172 _, trivial, ⟨rfl, rfl⟩⟩,
  ⟨rfl, trivial⟩,
  ⟨rfl, (by decide : ((38 : Nat) : Int) + 15 = ((53 : Nat) : Int))⟩,
  ⟨rfl, trivial⟩,
  ⟨rfl, trivial⟩,
  ⟨rfl, 1, _, rfl, ⟨okg 48 _ gc_48, gw_50 _, gw_357 _, ⟨by decide +kernel, by decide +kernel, by decide +kernel⟩, by decide +kernel⟩, gw_358 _, rfl, gw_359 _⟩,
  ⟨rfl, (by decide : ((47 : Nat) : Int) + 6 = ((53 : Nat) : Int))⟩,
  ⟨rfl, trivial⟩,
  ⟨rfl, (by decide : 3 < 6)⟩,
  ⟨rfl, (by decide : 4 < 6), (by decide : Int32.ofInt 1 = 1)⟩,
  ⟨rfl, (by decide : ((56 : Nat) : Int) + (-51) = ((5 : Nat) : Int))⟩,
  ⟨rfl, trivial⟩,
  ⟨rfl, _, rfl, Or.inl ⟨_, rfl⟩⟩, trivial⟩⟩
-- PartitionKernel$Partition.awaitRelease
set_option maxRecDepth 100000 in
theorem dc_32 : ∀ en ∈ cd_32, decode prog_7_method_11_code en.1 = .ok (en.2.1, en.2.2.1 - en.1) := by decide +kernel
set_option maxRecDepth 100000 in
set_option maxHeartbeats 4000000 in
theorem ok_32 (cA : Nat → ClassId) : mq_okm pg_cl (pg_tys cA) (pg_E cA) pg_Z pg_sw pg_mx pg_X 32 cd_32 := ⟨by decide +kernel, by decide +kernel, mq_ok_of dc_32 ⟨⟨rfl, trivial⟩,
  ⟨rfl, _, _, _, _, okc_5 cA _, (by decide : 4 < 14), gw_156 _, trivial, ⟨rfl, rfl⟩⟩,
  ⟨rfl, (by decide : ((4 : Nat) : Int) + 5 = ((9 : Nat) : Int))⟩,
  ⟨rfl, (by decide : Int32.ofInt 1 = 1)⟩,
  ⟨rfl, Or.inr rfl⟩,
  ⟨rfl, trivial⟩,
  ⟨rfl, trivial⟩,
  ⟨rfl, _, _, _, _, okc_5 cA _, (by decide : 9 < 14), gw_168 _, trivial, ⟨rfl, rfl⟩⟩,
  ⟨rfl, trivial⟩,
  ⟨rfl, _, _, _, _, okc_5 cA _, (by decide : 4 < 14), gw_156 _, trivial, ⟨rfl, rfl⟩⟩,
  ⟨rfl, trivial⟩,
  ⟨rfl, 1, _, rfl, ⟨okg 46 _ gc_46, gw_50 _, gw_594 _, ⟨by decide +kernel, by decide +kernel, by decide +kernel⟩, by decide +kernel⟩, gw_595 _, rfl, gw_596 _⟩,
  ⟨rfl, trivial⟩,
  ⟨rfl, trivial⟩,
  ⟨rfl, (by decide : Int32.ofInt 2 = 2)⟩,
  ⟨rfl, trivial⟩,
  ⟨rfl, _, _, _, _, okc_5 cA _, (by decide : 9 < 14), gw_168 _, trivial, ⟨rfl, rfl⟩⟩,
  ⟨rfl, (by decide : Int32.ofInt (-1) = (-1))⟩,
  ⟨rfl, 4, _, rfl, ⟨okg 41 _ gc_41, gw_48 _, gw_598 _, ⟨by decide +kernel, by decide +kernel, by decide +kernel⟩, by decide +kernel⟩, gw_600 _, rfl, gw_6 _⟩,
  ⟨rfl, (by decide : Int32.ofInt 0 = 0)⟩,
  ⟨rfl, Or.inr rfl⟩, trivial⟩⟩
-- PartitionKernel$Partition.awaitSpan
set_option maxRecDepth 100000 in
theorem dc_33 : ∀ en ∈ cd_33, decode prog_7_method_12_code en.1 = .ok (en.2.1, en.2.2.1 - en.1) := by decide +kernel
set_option maxRecDepth 100000 in
set_option maxHeartbeats 4000000 in
theorem ok_33 (cA : Nat → ClassId) : mq_okm pg_cl (pg_tys cA) (pg_E cA) pg_Z pg_sw pg_mx pg_X 33 cd_33 := ⟨by decide +kernel, by decide +kernel, mq_ok_of dc_33 ⟨⟨rfl, trivial⟩,
  ⟨rfl, ⟨okg 88 _ gc_88, gw_45 _, Or.inr ⟨_, pX_750⟩, ⟨by decide +kernel, by decide +kernel, by decide +kernel⟩, by decide +kernel⟩, gw_529 _⟩,
  ⟨rfl, (by decide : ((4 : Nat) : Int) + 5 = ((9 : Nat) : Int))⟩,
  ⟨rfl, (by decide : Int32.ofInt 1 = 1)⟩,
  ⟨rfl, Or.inr rfl⟩,
  ⟨rfl, trivial⟩,
  ⟨rfl, trivial⟩,
  ⟨rfl, (by decide : Int32.ofInt 2 = 2)⟩,
  ⟨rfl, trivial⟩,
  ⟨rfl, trivial⟩,
  ⟨rfl, trivial⟩,
  ⟨rfl, (by decide : Int32.ofInt (-1) = (-1))⟩,
  ⟨rfl, 4, _, rfl, ⟨okg 41 _ gc_41, gw_48 _, gw_598 _, ⟨by decide +kernel, by decide +kernel, by decide +kernel⟩, by decide +kernel⟩, gw_600 _, rfl, gw_6 _⟩,
  ⟨rfl, (by decide : Int32.ofInt 0 = 0)⟩,
  ⟨rfl, Or.inr rfl⟩, trivial⟩⟩
-- PartitionKernel$Partition.startDormant
set_option maxRecDepth 100000 in
theorem dc_34 : ∀ en ∈ cd_34, decode prog_7_method_13_code en.1 = .ok (en.2.1, en.2.2.1 - en.1) := by decide +kernel
set_option maxRecDepth 100000 in
set_option maxHeartbeats 4000000 in
theorem ok_34 (cA : Nat → ClassId) : mq_okm pg_cl (pg_tys cA) (pg_E cA) pg_Z pg_sw pg_mx pg_X 34 cd_34 := ⟨by decide +kernel, by decide +kernel, mq_ok_of dc_34 ⟨⟨rfl, trivial⟩,
  ⟨rfl, trivial⟩,
  ⟨rfl, 1, _, rfl, ⟨okg 24 _ gc_24, gw_48 _, gw_755 _, ⟨by decide +kernel, by decide +kernel, by decide +kernel⟩, by decide +kernel⟩, gw_326 _, rfl, gw_327 _⟩,
  ⟨rfl, (by decide : 3 < 4)⟩,
  ⟨rfl, trivial⟩,
  ⟨rfl, (by decide : ((7 : Nat) : Int) + 10 = ((17 : Nat) : Int))⟩,
  ⟨rfl, trivial⟩,
  ⟨rfl, _, _, _, _, okc_5 cA _, (by decide : 7 < 14), gw_163 _, trivial, ⟨rfl, rfl⟩⟩,
  ⟨rfl, (by decide : ((14 : Nat) : Int) + 5 = ((19 : Nat) : Int))⟩,
  ⟨rfl, (by decide : Int32.ofInt 1 = 1)⟩,
  ⟨rfl, Or.inr rfl⟩,
  ⟨rfl, trivial⟩,
  ⟨rfl, trivial⟩,
  ⟨rfl, trivial⟩,
  ⟨rfl, 2, _, rfl, ⟨okg 27 _ gc_27, gw_48 _, gw_586 _, ⟨by decide +kernel, by decide +kernel, by decide +kernel⟩, by decide +kernel⟩, gw_587 _, rfl, gw_588 _⟩,
  ⟨rfl, (by decide : Int32.ofInt 0 = 0)⟩,
  ⟨rfl, Or.inr rfl⟩, trivial⟩⟩
-- PartitionKernel$Partition.setPriority
set_option maxRecDepth 100000 in
theorem dc_35 : ∀ en ∈ cd_35, decode prog_7_method_14_code en.1 = .ok (en.2.1, en.2.2.1 - en.1) := by decide +kernel
set_option maxRecDepth 100000 in
set_option maxHeartbeats 4000000 in
theorem ok_35 (cA : Nat → ClassId) : mq_okm pg_cl (pg_tys cA) (pg_E cA) pg_Z pg_sw pg_mx pg_X 35 cd_35 := ⟨by decide +kernel, by decide +kernel, mq_ok_of dc_35 ⟨⟨rfl, trivial⟩,
  ⟨rfl, trivial⟩,
  ⟨rfl, 1, _, rfl, ⟨okg 24 _ gc_24, gw_48 _, gw_755 _, ⟨by decide +kernel, by decide +kernel, by decide +kernel⟩, by decide +kernel⟩, gw_326 _, rfl, gw_327 _⟩,
  ⟨rfl, (by decide : 3 < 4)⟩,
  ⟨rfl, trivial⟩,
  ⟨rfl, (by decide : ((7 : Nat) : Int) + 10 = ((17 : Nat) : Int))⟩,
  ⟨rfl, trivial⟩,
  ⟨rfl, ⟨okg 87 _ gc_87, gw_45 _, Or.inr ⟨_, pX_760⟩, ⟨by decide +kernel, by decide +kernel, by decide +kernel⟩, by decide +kernel⟩, gw_526 _⟩,
  ⟨rfl, (by decide : ((14 : Nat) : Int) + 5 = ((19 : Nat) : Int))⟩,
  ⟨rfl, (by decide : Int32.ofInt 1 = 1)⟩,
  ⟨rfl, Or.inr rfl⟩,
  ⟨rfl, trivial⟩,
  ⟨rfl, trivial⟩,
  ⟨rfl, _, _, _, _, okc_5 cA _, (by decide : 3 < 14), gw_154 _, Or.inl rfl, ⟨rfl, rfl⟩⟩,
  ⟨rfl, (by decide : Int32.ofInt 0 = 0)⟩,
  ⟨rfl, Or.inr rfl⟩, trivial⟩⟩
-- PartitionKernel$Partition.takeSemaphore
set_option maxRecDepth 100000 in
theorem dc_36 : ∀ en ∈ cd_36, decode prog_7_method_15_code en.1 = .ok (en.2.1, en.2.2.1 - en.1) := by decide +kernel
set_option maxRecDepth 100000 in
set_option maxHeartbeats 4000000 in
theorem ok_36 (cA : Nat → ClassId) : mq_okm pg_cl (pg_tys cA) (pg_E cA) pg_Z pg_sw pg_mx pg_X 36 cd_36 := ⟨by decide +kernel, by decide +kernel, mq_ok_of dc_36 ⟨⟨rfl, trivial⟩,
  ⟨rfl, ⟨okg 39 _ gc_39, gw_48 _, Or.inl (gw_361 _), ⟨by decide +kernel, by decide +kernel, by decide +kernel⟩, by decide +kernel⟩, gw_362 _⟩,
  ⟨rfl, (by decide : ((4 : Nat) : Int) + 5 = ((9 : Nat) : Int))⟩,
  ⟨rfl, (by decide : Int32.ofInt 1 = 1)⟩,
  ⟨rfl, Or.inr rfl⟩,
  ⟨rfl, trivial⟩,
  ⟨rfl, _, _, _, _, okc_4 cA _, (by decide : 3 < 9), gw_212 _, trivial, ⟨rfl, Or.inr ⟨_, rfl⟩⟩⟩,
  ⟨rfl, trivial⟩,
  ⟨rfl, trivial⟩,
  ⟨rfl, (by decide : ((15 : Nat) : Int) + 16 = ((31 : Nat) : Int))⟩,
  ⟨rfl, trivial⟩,
  ⟨rfl, _, _, _, _, okc_4 cA _, (by decide : 3 < 9), gw_212 _, trivial, ⟨rfl, Or.inr ⟨_, rfl⟩⟩⟩,
  ⟨rfl, trivial⟩,
  ⟨rfl, trivial⟩,
  ⟨rfl, trivial⟩,
  ⟨rfl, (by decide : Int32.ofInt 1 = 1)⟩,
  ⟨rfl, trivial⟩,
  ⟨rfl, trivial⟩,
  ⟨rfl, (by decide : ((28 : Nat) : Int) + 11 = ((39 : Nat) : Int))⟩,
  ⟨rfl, trivial⟩,
  ⟨rfl, trivial⟩,
  ⟨rfl, (by decide : Int32.ofInt 3 = 3)⟩,
  ⟨rfl, (by decide : Int32.ofInt (-1) = (-1))⟩,
  ⟨rfl, trivial⟩,
  ⟨rfl, 4, _, rfl, ⟨okg 41 _ gc_41, gw_48 _, gw_598 _, ⟨by decide +kernel, by decide +kernel, by decide +kernel⟩, by decide +kernel⟩, gw_600 _, rfl, gw_6 _⟩,
  ⟨rfl, (by decide : Int32.ofInt 0 = 0)⟩,
  ⟨rfl, Or.inr rfl⟩, trivial⟩⟩
-- PartitionKernel$Partition.giveSemaphore
set_option maxRecDepth 100000 in
theorem dc_37 : ∀ en ∈ cd_37, decode prog_7_method_16_code en.1 = .ok (en.2.1, en.2.2.1 - en.1) := by decide +kernel
set_option maxRecDepth 100000 in
set_option maxHeartbeats 4000000 in
theorem ok_37 (cA : Nat → ClassId) : mq_okm pg_cl (pg_tys cA) (pg_E cA) pg_Z pg_sw pg_mx pg_X 37 cd_37 := ⟨by decide +kernel, by decide +kernel, mq_ok_of dc_37 ⟨⟨rfl, trivial⟩,
  ⟨rfl, ⟨okg 39 _ gc_39, gw_48 _, Or.inl (gw_361 _), ⟨by decide +kernel, by decide +kernel, by decide +kernel⟩, by decide +kernel⟩, gw_362 _⟩,
  ⟨rfl, (by decide : ((4 : Nat) : Int) + 5 = ((9 : Nat) : Int))⟩,
  ⟨rfl, (by decide : Int32.ofInt 1 = 1)⟩,
  ⟨rfl, Or.inr rfl⟩,
  ⟨rfl, trivial⟩,
  ⟨rfl, (by decide : Int32.ofInt 3 = 3)⟩,
  ⟨rfl, trivial⟩,
  ⟨rfl, 2, _, rfl, ⟨okg 31 _ gc_31, gw_48 _, gw_353 _, ⟨by decide +kernel, by decide +kernel, by decide +kernel⟩, by decide +kernel⟩, gw_354 _, rfl, gw_355 _⟩,
  ⟨rfl, (by decide : 2 < 3)⟩,
  ⟨rfl, trivial⟩,
  ⟨rfl, (by decide : ((17 : Nat) : Int) + 13 = ((30 : Nat) : Int))⟩,
  ⟨rfl, trivial⟩,
  ⟨rfl, trivial⟩,
  ⟨rfl, (by decide : Int32.ofInt 1 = 1)⟩,
  ⟨rfl, (by decide : Int32.ofInt (-1) = (-1))⟩,
  ⟨rfl, (by decide : Int32.ofInt (-1) = (-1))⟩,
  ⟨rfl, 4, _, rfl, ⟨okg 41 _ gc_41, gw_48 _, gw_598 _, ⟨by decide +kernel, by decide +kernel, by decide +kernel⟩, by decide +kernel⟩, gw_600 _, rfl, gw_6 _⟩,
  ⟨rfl, (by decide : Int32.ofInt 0 = 0)⟩,
  ⟨rfl, Or.inr rfl⟩,
  ⟨rfl, trivial⟩,
  ⟨rfl, _, _, _, _, okc_4 cA _, (by decide : 3 < 9), gw_212 _, trivial, ⟨rfl, Or.inr ⟨_, rfl⟩⟩⟩,
  ⟨rfl, trivial⟩,
  ⟨rfl, trivial⟩,
  ⟨rfl, (by decide : (Int16.ofInt 1000).toInt32 = 1000)⟩,
  ⟨rfl, (by decide : ((39 : Nat) : Int) + 5 = ((44 : Nat) : Int))⟩,
  ⟨rfl, (by decide : Int32.ofInt 1 = 1)⟩,
  ⟨rfl, Or.inr rfl⟩,
  ⟨rfl, trivial⟩,
  ⟨rfl, _, _, _, _, okc_4 cA _, (by decide : 3 < 9), gw_212 _, trivial, ⟨rfl, Or.inr ⟨_, rfl⟩⟩⟩,
  ⟨rfl, trivial⟩,
  ⟨rfl, trivial⟩,
  ⟨rfl, trivial⟩,
  ⟨rfl, (by decide : Int32.ofInt 1 = 1)⟩,
  ⟨rfl, trivial⟩,
  ⟨rfl, trivial⟩,
  ⟨rfl, (by decide : Int32.ofInt 0 = 0)⟩,
  ⟨rfl, Or.inr rfl⟩, trivial⟩⟩
-- PartitionKernel$Partition.firstReadyNumber
set_option maxRecDepth 100000 in
theorem dc_38 : ∀ en ∈ cd_38, decode prog_7_method_17_code en.1 = .ok (en.2.1, en.2.2.1 - en.1) := by decide +kernel
set_option maxRecDepth 100000 in
set_option maxHeartbeats 4000000 in
theorem ok_38 (cA : Nat → ClassId) : mq_okm pg_cl (pg_tys cA) (pg_E cA) pg_Z pg_sw pg_mx pg_X 38 cd_38 := ⟨by decide +kernel, by decide +kernel, mq_ok_of dc_38 ⟨⟨rfl, trivial⟩,
  ⟨rfl, (by decide : Int32.ofInt 1 = 1)⟩,
  ⟨rfl, (by decide : Int32.ofInt (-1) = (-1))⟩,
  ⟨rfl, 2, _, rfl, ⟨okg 31 _ gc_31, gw_48 _, gw_353 _, ⟨by decide +kernel, by decide +kernel, by decide +kernel⟩, by decide +kernel⟩, gw_354 _, rfl, gw_355 _⟩,
  ⟨rfl, (by decide : 1 < 2)⟩,
  ⟨rfl, trivial⟩,
  ⟨rfl, (by decide : ((8 : Nat) : Int) + 7 = ((15 : Nat) : Int))⟩,
  ⟨rfl, (by decide : Int32.ofInt (-1) = (-1))⟩,
  ⟨rfl, (by decide : ((12 : Nat) : Int) + 7 = ((19 : Nat) : Int))⟩,
  ⟨rfl, trivial⟩,
  ⟨rfl, _, _, _, _, okc_5 cA _, (by decide : 0 < 14), gw_149 _, trivial, ⟨rfl, rfl⟩⟩,
  ⟨rfl, Or.inr rfl⟩, trivial⟩⟩
-- PartitionKernel$Partition.isSemaphore
set_option maxRecDepth 100000 in
theorem dc_39 : ∀ en ∈ cd_39, decode prog_7_method_18_code en.1 = .ok (en.2.1, en.2.2.1 - en.1) := by decide +kernel
set_option maxRecDepth 100000 in
set_option maxHeartbeats 4000000 in
theorem ok_39 (cA : Nat → ClassId) : mq_okm pg_cl (pg_tys cA) (pg_E cA) pg_Z pg_sw pg_mx pg_X 39 cd_39 := ⟨by decide +kernel, by decide +kernel, mq_ok_of dc_39 ⟨⟨rfl, trivial⟩,
  ⟨rfl, (by decide : ((1 : Nat) : Int) + 12 = ((13 : Nat) : Int))⟩,
  ⟨rfl, trivial⟩,
  ⟨rfl, (by decide : Int32.ofInt 4 = 4)⟩,
  ⟨rfl, (by decide : ((6 : Nat) : Int) + 7 = ((13 : Nat) : Int))⟩,
  ⟨rfl, (by decide : Int32.ofInt 1 = 1)⟩,
  ⟨rfl, (by decide : ((10 : Nat) : Int) + 4 = ((14 : Nat) : Int))⟩,
  ⟨rfl, (by decide : Int32.ofInt 0 = 0)⟩,
  ⟨rfl, Or.inl ⟨rfl, rfl⟩⟩, trivial⟩⟩
-- PartitionKernel$Partition.firstSleeper
set_option maxRecDepth 100000 in
theorem dc_40 : ∀ en ∈ cd_40, decode prog_7_method_19_code en.1 = .ok (en.2.1, en.2.2.1 - en.1) := by decide +kernel
set_option maxRecDepth 100000 in
set_option maxHeartbeats 4000000 in
theorem ok_40 (cA : Nat → ClassId) : mq_okm pg_cl (pg_tys cA) (pg_E cA) pg_Z pg_sw pg_mx pg_X 40 cd_40 := ⟨by decide +kernel, by decide +kernel, mq_ok_of dc_40 ⟨⟨rfl, trivial⟩,
  ⟨rfl, (by decide : 2 < 6)⟩,
  ⟨rfl, (by decide : Int32.ofInt 0 = 0)⟩,
  ⟨rfl, (by decide : 3 < 6)⟩,
  ⟨rfl, trivial⟩,
  ⟨rfl, trivial⟩,
  ⟨rfl, _, _, _, _, okc_4 cA _, (by decide : 5 < 9), gw_215 _, trivial, ⟨rfl, rfl⟩⟩,
  ⟨rfl, (by decide : ((9 : Nat) : Int) + 66 = ((75 : Nat) : Int))⟩,
  ⟨rfl, trivial⟩,
  ⟨rfl, _, _, _, _, okc_4 cA _, (by decide : 2 < 9), gw_210 _, trivial, ⟨rfl, Or.inr ⟨_, rfl⟩⟩⟩,
  ⟨rfl, trivial⟩,
  ⟨rfl, trivial⟩,
  ⟨rfl, (by decide : 4 < 6)⟩,
  ⟨rfl, trivial⟩,
  ⟨rfl, _, _, _, _, okc_5 cA _, (by decide : 7 < 14), gw_163 _, trivial, ⟨rfl, rfl⟩⟩,
  ⟨rfl, (by decide : Int32.ofInt 2 = 2)⟩,
  ⟨rfl, (by decide : ((26 : Nat) : Int) + 16 = ((42 : Nat) : Int))⟩,
  ⟨rfl, trivial⟩,
  ⟨rfl, _, _, _, _, okc_5 cA _, (by decide : 10 < 14), gw_170 _, trivial, ⟨rfl, rfl⟩⟩,
  ⟨rfl, trivial⟩,
  ⟨rfl, (by decide : ((35 : Nat) : Int) + 7 = ((42 : Nat) : Int))⟩,
  ⟨rfl, (by decide : Int32.ofInt 1 = 1)⟩,
  ⟨rfl, (by decide : ((39 : Nat) : Int) + 4 = ((43 : Nat) : Int))⟩,
  ⟨rfl, (by decide : Int32.ofInt 0 = 0)⟩,
  ⟨rfl, (by decide : 5 < 6)⟩,
  ⟨rfl, trivial⟩,
  ⟨rfl, (by decide : ((47 : Nat) : Int) + 22 = ((69 : Nat) : Int))⟩,
  ⟨rfl, trivial⟩,
  ⟨rfl, (by decide : ((51 : Nat) : Int) + 15 = ((66 : Nat) : Int))⟩,
  ⟨rfl, trivial⟩,
  ⟨rfl, _, _, _, _, okc_5 cA _, (by decide : 10 < 14), gw_170 _, trivial, ⟨rfl, rfl⟩⟩,
  ⟨rfl, trivial⟩,
  ⟨rfl, _, _, _, _, okc_5 cA _, (by decide : 10 < 14), gw_170 _, trivial, ⟨rfl, rfl⟩⟩,
  ⟨rfl, (by decide : ((63 : Nat) : Int) + 6 = ((69 : Nat) : Int))⟩,
  ⟨rfl, trivial⟩,
  ⟨rfl, (by decide : 2 < 6)⟩,
  ⟨rfl, (by decide : 3 < 6), (by decide : Int32.ofInt 1 = 1)⟩,
  ⟨rfl, (by decide : ((72 : Nat) : Int) + (-68) = ((4 : Nat) : Int))⟩,
  ⟨rfl, trivial⟩,
  ⟨rfl, _, rfl, Or.inl ⟨_, rfl⟩⟩, trivial⟩⟩
end
section
/-! Rows of methods, by program. -/
-- PartitionKernel$Partition.enter
set_option maxRecDepth 100000 in
theorem dc_41 : ∀ en ∈ cd_41, decode prog_7_method_20_code en.1 = .ok (en.2.1, en.2.2.1 - en.1) := by decide +kernel
set_option maxRecDepth 100000 in
set_option maxHeartbeats 4000000 in
theorem ok_41 (cA : Nat → ClassId) : mq_okm pg_cl (pg_tys cA) (pg_E cA) pg_Z pg_sw pg_mx pg_X 41 cd_41 := ⟨by decide +kernel, by decide +kernel, mq_ok_of dc_41 ⟨⟨rfl, trivial⟩,
  ⟨rfl, trivial⟩,
  ⟨rfl, _, _, _, _, okc_5 cA _, (by decide : 7 < 14), gw_163 _, Or.inl rfl, ⟨rfl, rfl⟩⟩,
  ⟨rfl, trivial⟩,
  ⟨rfl, trivial⟩,
  ⟨rfl, _, _, _, _, okc_5 cA _, (by decide : 10 < 14), gw_170 _, Or.inl rfl, ⟨rfl, rfl⟩⟩,
  ⟨rfl, trivial⟩,
  ⟨rfl, trivial⟩,
  ⟨rfl, _, _, _, _, okc_5 cA _, (by decide : 11 < 14), gw_172 _, Or.inl rfl, ⟨rfl, rfl⟩⟩,
  ⟨rfl, trivial⟩,
  ⟨rfl, trivial⟩,
  ⟨rfl, _, _, _, _, okc_4 cA _, (by decide : 6 < 9), gw_217 _, trivial, ⟨rfl, rfl⟩⟩,
  ⟨rfl, _, _, _, _, okc_5 cA _, (by decide : 12 < 14), gw_174 _, Or.inl rfl, ⟨rfl, rfl⟩⟩,
  ⟨rfl, trivial⟩,
  ⟨rfl, trivial⟩,
  ⟨rfl, _, _, _, _, okc_4 cA _, (by decide : 6 < 9), gw_217 _, trivial, ⟨rfl, rfl⟩⟩,
  ⟨rfl, (by decide : Int32.ofInt 1 = 1)⟩,
  ⟨rfl, trivial⟩,
  ⟨rfl, _, _, _, _, okc_4 cA _, (by decide : 6 < 9), gw_217 _, Or.inl rfl, ⟨rfl, rfl⟩⟩,
  ⟨rfl, rfl⟩, trivial⟩⟩
-- PartitionKernel$Proc.<init>
set_option maxRecDepth 100000 in
theorem dc_42 : ∀ en ∈ cd_42, decode prog_8_method_1_code en.1 = .ok (en.2.1, en.2.2.1 - en.1) := by decide +kernel
set_option maxRecDepth 100000 in
set_option maxHeartbeats 4000000 in
theorem ok_42 (cA : Nat → ClassId) : mq_okm pg_cl (pg_tys cA) (pg_E cA) pg_Z pg_sw pg_mx pg_X 42 cd_42 := ⟨by decide +kernel, by decide +kernel, mq_ok_of dc_42 ⟨⟨rfl, trivial⟩,
  ⟨rfl, rfl, gw_147 _, gw_67 _, gw_obj _⟩,
  ⟨rfl, trivial⟩,
  ⟨rfl, (by decide : (Int8.ofInt 32).toInt32 = 32)⟩,
  ⟨rfl, (by decide : 13 ≠ 999), (by decide : 32 ≤ 65536), Or.inl ⟨rfl, rfl, gw_96 _⟩⟩,
  ⟨rfl, _, _, _, _, okc_5 cA _, (by decide : 1 < 14), gw_151 _, Or.inr ⟨rfl, rfl, rfl⟩, ⟨rfl, Or.inr ⟨_, rfl⟩⟩⟩,
  ⟨rfl, trivial⟩,
  ⟨rfl, (by decide : Int32.ofInt 0 = 0)⟩,
  ⟨rfl, _, _, _, _, okc_5 cA _, (by decide : 7 < 14), gw_162 _, Or.inl rfl, ⟨rfl, rfl⟩⟩,
  ⟨rfl, trivial⟩,
  ⟨rfl, (by decide : Int32.ofInt (-1) = (-1))⟩,
  ⟨rfl, _, _, _, _, okc_5 cA _, (by decide : 8 < 14), gw_164 _, Or.inl rfl, ⟨rfl, rfl⟩⟩,
  ⟨rfl, trivial⟩,
  ⟨rfl, (by decide : Int32.ofInt (-1) = (-1))⟩,
  ⟨rfl, _, _, _, _, okc_5 cA _, (by decide : 10 < 14), gw_169 _, Or.inl rfl, ⟨rfl, rfl⟩⟩,
  ⟨rfl, trivial⟩,
  ⟨rfl, (by decide : Int32.ofInt (-1) = (-1))⟩,
  ⟨rfl, _, _, _, _, okc_5 cA _, (by decide : 11 < 14), gw_171 _, Or.inl rfl, ⟨rfl, rfl⟩⟩,
  ⟨rfl, trivial⟩,
  ⟨rfl, trivial⟩,
  ⟨rfl, _, _, _, _, okc_5 cA _, (by decide : 0 < 14), gw_148 _, Or.inr ⟨rfl, rfl, rfl⟩, ⟨rfl, rfl⟩⟩,
  ⟨rfl, rfl⟩, trivial⟩⟩
-- PartitionKernel$Proc.get
set_option maxRecDepth 100000 in
theorem dc_43 : ∀ en ∈ cd_43, decode prog_8_method_2_code en.1 = .ok (en.2.1, en.2.2.1 - en.1) := by decide +kernel
set_option maxRecDepth 100000 in
set_option maxHeartbeats 4000000 in
theorem ok_43 (cA : Nat → ClassId) : mq_okm pg_cl (pg_tys cA) (pg_E cA) pg_Z pg_sw pg_mx pg_X 43 cd_43 := ⟨by decide +kernel, by decide +kernel, mq_ok_of dc_43 ⟨⟨rfl, trivial⟩,
  ⟨rfl, (by decide : ((1 : Nat) : Int) + 18 = ((19 : Nat) : Int))⟩,
  ⟨rfl, trivial⟩,
  ⟨rfl, (by decide : (Int8.ofInt 32).toInt32 = 32)⟩,
  ⟨rfl, (by decide : ((7 : Nat) : Int) + 12 = ((19 : Nat) : Int))⟩,
  ⟨rfl, trivial⟩,
  ⟨rfl, _, _, _, _, okc_5 cA _, (by decide : 1 < 14), gw_151 _, trivial, ⟨rfl, Or.inr ⟨_, rfl⟩⟩⟩,
  ⟨rfl, trivial⟩,
  ⟨rfl, trivial⟩,
  ⟨rfl, (by decide : ((16 : Nat) : Int) + 4 = ((20 : Nat) : Int))⟩,
  ⟨rfl, (by decide : Int32.ofInt 0 = 0)⟩,
  ⟨rfl, Or.inr rfl⟩, trivial⟩⟩
-- PartitionKernel$Proc.set
set_option maxRecDepth 100000 in
theorem dc_44 : ∀ en ∈ cd_44, decode prog_8_method_3_code en.1 = .ok (en.2.1, en.2.2.1 - en.1) := by decide +kernel
set_option maxRecDepth 100000 in
set_option maxHeartbeats 4000000 in
theorem ok_44 (cA : Nat → ClassId) : mq_okm pg_cl (pg_tys cA) (pg_E cA) pg_Z pg_sw pg_mx pg_X 44 cd_44 := ⟨by decide +kernel, by decide +kernel, mq_ok_of dc_44 ⟨⟨rfl, trivial⟩,
  ⟨rfl, (by decide : ((1 : Nat) : Int) + 16 = ((17 : Nat) : Int))⟩,
  ⟨rfl, trivial⟩,
  ⟨rfl, (by decide : (Int8.ofInt 32).toInt32 = 32)⟩,
  ⟨rfl, (by decide : ((7 : Nat) : Int) + 10 = ((17 : Nat) : Int))⟩,
  ⟨rfl, trivial⟩,
  ⟨rfl, _, _, _, _, okc_5 cA _, (by decide : 1 < 14), gw_151 _, trivial, ⟨rfl, Or.inr ⟨_, rfl⟩⟩⟩,
  ⟨rfl, trivial⟩,
  ⟨rfl, trivial⟩,
  ⟨rfl, trivial⟩,
  ⟨rfl, rfl⟩, trivial⟩⟩
-- PartitionKernel$Proc.reset
set_option maxRecDepth 100000 in
theorem dc_45 : ∀ en ∈ cd_45, decode prog_8_method_4_code en.1 = .ok (en.2.1, en.2.2.1 - en.1) := by decide +kernel
set_option maxRecDepth 100000 in
set_option maxHeartbeats 4000000 in
theorem ok_45 (cA : Nat → ClassId) : mq_okm pg_cl (pg_tys cA) (pg_E cA) pg_Z pg_sw pg_mx pg_X 45 cd_45 := ⟨by decide +kernel, by decide +kernel, mq_ok_of dc_45 ⟨⟨rfl, (by decide : Int32.ofInt 0 = 0)⟩,
  ⟨rfl, (by decide : 1 < 2)⟩,
  ⟨rfl, trivial⟩,
  ⟨rfl, (by decide : (Int8.ofInt 32).toInt32 = 32)⟩,
  ⟨rfl, (by decide : ((5 : Nat) : Int) + 16 = ((21 : Nat) : Int))⟩,
  ⟨rfl, trivial⟩,
  ⟨rfl, _, _, _, _, okc_5 cA _, (by decide : 1 < 14), gw_151 _, trivial, ⟨rfl, Or.inr ⟨_, rfl⟩⟩⟩,
  ⟨rfl, trivial⟩,
  ⟨rfl, (by decide : Int32.ofInt 0 = 0)⟩,
  ⟨rfl, trivial⟩,
  ⟨rfl, (by decide : 1 < 2), (by decide : Int32.ofInt 1 = 1)⟩,
  ⟨rfl, (by decide : ((18 : Nat) : Int) + (-16) = ((2 : Nat) : Int))⟩,
  ⟨rfl, trivial⟩,
  ⟨rfl, trivial⟩,
  ⟨rfl, _, _, _, _, okc_5 cA _, (by decide : 2 < 14), gw_153 _, trivial, ⟨rfl, rfl⟩⟩,
  ⟨rfl, _, _, _, _, okc_5 cA _, (by decide : 6 < 14), gw_160 _, Or.inl rfl, ⟨rfl, rfl⟩⟩,
  ⟨rfl, rfl⟩, trivial⟩⟩
-- PartitionKernel$Proc.releaseAt
set_option maxRecDepth 100000 in
theorem dc_46 : ∀ en ∈ cd_46, decode prog_8_method_5_code en.1 = .ok (en.2.1, en.2.2.1 - en.1) := by decide +kernel
set_option maxRecDepth 100000 in
set_option maxHeartbeats 4000000 in
theorem ok_46 (cA : Nat → ClassId) : mq_okm pg_cl (pg_tys cA) (pg_E cA) pg_Z pg_sw pg_mx pg_X 46 cd_46 := ⟨by decide +kernel, by decide +kernel, mq_ok_of dc_46 ⟨⟨rfl, trivial⟩,
  ⟨rfl, trivial⟩,
  ⟨rfl, _, _, _, _, okc_5 cA _, (by decide : 9 < 14), gw_167 _, Or.inl rfl, ⟨rfl, rfl⟩⟩,
  ⟨rfl, trivial⟩,
  ⟨rfl, trivial⟩,
  ⟨rfl, _, _, _, _, okc_5 cA _, (by decide : 5 < 14), gw_158 _, trivial, ⟨rfl, rfl⟩⟩,
  ⟨rfl, (by decide : ((10 : Nat) : Int) + 12 = ((22 : Nat) : Int))⟩,
  ⟨rfl, trivial⟩,
  ⟨rfl, trivial⟩,
  ⟨rfl, _, _, _, _, okc_5 cA _, (by decide : 5 < 14), gw_158 _, trivial, ⟨rfl, rfl⟩⟩,
  ⟨rfl, trivial⟩,
  ⟨rfl, (by decide : ((19 : Nat) : Int) + 4 = ((23 : Nat) : Int))⟩,
  ⟨rfl, (by decide : Int32.ofInt (-1) = (-1))⟩,
  ⟨rfl, _, _, _, _, okc_5 cA _, (by decide : 8 < 14), gw_164 _, Or.inl rfl, ⟨rfl, rfl⟩⟩,
  ⟨rfl, rfl⟩, trivial⟩⟩
-- PartitionKernel$Proc.isLate
set_option maxRecDepth 100000 in
theorem dc_47 : ∀ en ∈ cd_47, decode prog_8_method_6_code en.1 = .ok (en.2.1, en.2.2.1 - en.1) := by decide +kernel
set_option maxRecDepth 100000 in
set_option maxHeartbeats 4000000 in
theorem ok_47 (cA : Nat → ClassId) : mq_okm pg_cl (pg_tys cA) (pg_E cA) pg_Z pg_sw pg_mx pg_X 47 cd_47 := ⟨by decide +kernel, by decide +kernel, mq_ok_of dc_47 ⟨⟨rfl, trivial⟩,
  ⟨rfl, _, _, _, _, okc_5 cA _, (by decide : 8 < 14), gw_164 _, trivial, ⟨rfl, rfl⟩⟩,
  ⟨rfl, (by decide : Int32.ofInt (-1) = (-1))⟩,
  ⟨rfl, (by decide : ((5 : Nat) : Int) + 15 = ((20 : Nat) : Int))⟩,
  ⟨rfl, trivial⟩,
  ⟨rfl, _, _, _, _, okc_5 cA _, (by decide : 8 < 14), gw_164 _, trivial, ⟨rfl, rfl⟩⟩,
  ⟨rfl, trivial⟩,
  ⟨rfl, (by decide : ((13 : Nat) : Int) + 7 = ((20 : Nat) : Int))⟩,
  ⟨rfl, (by decide : Int32.ofInt 1 = 1)⟩,
  ⟨rfl, (by decide : ((17 : Nat) : Int) + 4 = ((21 : Nat) : Int))⟩,
  ⟨rfl, (by decide : Int32.ofInt 0 = 0)⟩,
  ⟨rfl, Or.inl ⟨rfl, rfl⟩⟩, trivial⟩⟩
-- PartitionKernel$Proc.leads
set_option maxRecDepth 100000 in
theorem dc_48 : ∀ en ∈ cd_48, decode prog_8_method_7_code en.1 = .ok (en.2.1, en.2.2.1 - en.1) := by decide +kernel
set_option maxRecDepth 100000 in
set_option maxHeartbeats 4000000 in
theorem ok_48 (cA : Nat → ClassId) : mq_okm pg_cl (pg_tys cA) (pg_E cA) pg_Z pg_sw pg_mx pg_X 48 cd_48 := ⟨by decide +kernel, by decide +kernel, mq_ok_of dc_48 ⟨⟨rfl, trivial⟩,
  ⟨rfl, (by decide : ((1 : Nat) : Int) + 5 = ((6 : Nat) : Int))⟩,
  ⟨rfl, (by decide : Int32.ofInt 1 = 1)⟩,
  ⟨rfl, Or.inl ⟨rfl, rfl⟩⟩,
  ⟨rfl, trivial⟩,
  ⟨rfl, _, _, _, _, okc_5 cA _, (by decide : 3 < 14), gw_155 _, trivial, ⟨rfl, rfl⟩⟩,
  ⟨rfl, trivial⟩,
  ⟨rfl, _, _, _, _, okc_5 cA _, (by decide : 3 < 14), gw_155 _, trivial, ⟨rfl, rfl⟩⟩,
  ⟨rfl, (by decide : ((14 : Nat) : Int) + 22 = ((36 : Nat) : Int))⟩,
  ⟨rfl, trivial⟩,
  ⟨rfl, _, _, _, _, okc_5 cA _, (by decide : 12 < 14), gw_173 _, trivial, ⟨rfl, rfl⟩⟩,
  ⟨rfl, trivial⟩,
  ⟨rfl, _, _, _, _, okc_5 cA _, (by decide : 12 < 14), gw_173 _, trivial, ⟨rfl, rfl⟩⟩,
  ⟨rfl, (by decide : ((25 : Nat) : Int) + 7 = ((32 : Nat) : Int))⟩,
  ⟨rfl, (by decide : Int32.ofInt 1 = 1)⟩,
  ⟨rfl, (by decide : ((29 : Nat) : Int) + 23 = ((52 : Nat) : Int))⟩,
  ⟨rfl, (by decide : Int32.ofInt 0 = 0)⟩,
  ⟨rfl, (by decide : ((33 : Nat) : Int) + 19 = ((52 : Nat) : Int))⟩,
  ⟨rfl, trivial⟩,
  ⟨rfl, _, _, _, _, okc_5 cA _, (by decide : 3 < 14), gw_155 _, trivial, ⟨rfl, rfl⟩⟩,
  ⟨rfl, trivial⟩,
  ⟨rfl, _, _, _, _, okc_5 cA _, (by decide : 3 < 14), gw_155 _, trivial, ⟨rfl, rfl⟩⟩,
  ⟨rfl, (by decide : ((44 : Nat) : Int) + 7 = ((51 : Nat) : Int))⟩,
  ⟨rfl, (by decide : Int32.ofInt 1 = 1)⟩,
  ⟨rfl, (by decide : ((48 : Nat) : Int) + 4 = ((52 : Nat) : Int))⟩,
  ⟨rfl, (by decide : Int32.ofInt 0 = 0)⟩,
  ⟨rfl, Or.inl ⟨rfl, rfl⟩⟩, trivial⟩⟩
-- PartitionKernel$Proc.tell
set_option maxRecDepth 100000 in
theorem dc_49 : ∀ en ∈ cd_49, decode prog_8_method_8_code en.1 = .ok (en.2.1, en.2.2.1 - en.1) := by decide +kernel
set_option maxRecDepth 100000 in
set_option maxHeartbeats 4000000 in
theorem ok_49 (cA : Nat → ClassId) : mq_okm pg_cl (pg_tys cA) (pg_E cA) pg_Z pg_sw pg_mx pg_X 49 cd_49 := ⟨by decide +kernel, by decide +kernel, mq_ok_of dc_49 ⟨⟨rfl, trivial⟩,
  ⟨by decide, by decide, by decide, by decide, by decide, by decide, by decide, by decide, by decide, by decide, by decide, by decide, by decide, by decide, by decide, by decide, by decide, by decide, trivial⟩,
  ⟨rfl, trivial⟩,
  ⟨rfl, _, _, _, _, okc_5 cA _, (by decide : 7 < 14), gw_162 _, trivial, ⟨rfl, rfl⟩⟩,
  ⟨rfl, Or.inr rfl⟩,
  ⟨rfl, trivial⟩,
  ⟨rfl, _, _, _, _, okc_5 cA _, (by decide : 6 < 14), gw_160 _, trivial, ⟨rfl, rfl⟩⟩,
  ⟨rfl, Or.inr rfl⟩,
  ⟨rfl, trivial⟩,
  ⟨rfl, _, _, _, _, okc_5 cA _, (by decide : 3 < 14), gw_155 _, trivial, ⟨rfl, rfl⟩⟩,
  ⟨rfl, Or.inr rfl⟩,
  ⟨rfl, trivial⟩,
  ⟨rfl, _, _, _, _, okc_5 cA _, (by decide : 8 < 14), gw_164 _, trivial, ⟨rfl, rfl⟩⟩,
  ⟨rfl, Or.inr rfl⟩,
  ⟨rfl, trivial⟩,
  ⟨rfl, _, _, _, _, okc_5 cA _, (by decide : 10 < 14), gw_169 _, trivial, ⟨rfl, rfl⟩⟩,
  ⟨rfl, Or.inr rfl⟩,
  ⟨rfl, trivial⟩,
  ⟨rfl, _, _, _, _, okc_5 cA _, (by decide : 11 < 14), gw_171 _, trivial, ⟨rfl, rfl⟩⟩,
  ⟨rfl, Or.inr rfl⟩,
  ⟨rfl, trivial⟩,
  ⟨rfl, _, _, _, _, okc_5 cA _, (by decide : 13 < 14), gw_175 _, trivial, ⟨rfl, rfl⟩⟩,
  ⟨rfl, Or.inr rfl⟩,
  ⟨rfl, trivial⟩,
  ⟨rfl, _, _, _, _, okc_5 cA _, (by decide : 9 < 14), gw_167 _, trivial, ⟨rfl, rfl⟩⟩,
  ⟨rfl, Or.inr rfl⟩,
  ⟨rfl, (by decide : Int32.ofInt (-1) = (-1))⟩,
  ⟨rfl, Or.inr rfl⟩, trivial⟩⟩
-- PartitionKernel$Machine.step
set_option maxRecDepth 100000 in
theorem dc_50 : ∀ en ∈ cd_50, decode prog_5_method_2_code en.1 = .ok (en.2.1, en.2.2.1 - en.1) := by decide +kernel
set_option maxRecDepth 100000 in
set_option maxHeartbeats 4000000 in
theorem ok_50 (cA : Nat → ClassId) : mq_okm pg_cl (pg_tys cA) (pg_E cA) pg_Z pg_sw pg_mx pg_X 50 cd_50 := ⟨by decide +kernel, by decide +kernel, mq_ok_of dc_50 ⟨⟨rfl, trivial⟩,
  ⟨rfl, _, _, _, _, okc_5 cA _, (by decide : 6 < 14), gw_159 _, trivial, ⟨rfl, rfl⟩⟩,
  ⟨rfl, (by decide : Int32.ofInt 4 = 4)⟩,
  ⟨rfl, ⟨okg 16 _ gc_16, gw_49 _, Or.inl (gw_655 _), ⟨by decide +kernel, by decide +kernel, by decide +kernel⟩, by decide +kernel⟩, gw_315 _⟩,
  ⟨rfl, (by decide : ((8 : Nat) : Int) + 5 = ((13 : Nat) : Int))⟩,
  ⟨rfl, (by decide : Int32.ofInt 1 = 1)⟩,
  ⟨rfl, Or.inr rfl⟩,
  ⟨rfl, trivial⟩,
  ⟨rfl, trivial⟩,
  ⟨rfl, _, _, _, _, okc_5 cA _, (by decide : 6 < 14), gw_159 _, trivial, ⟨rfl, rfl⟩⟩,
  ⟨rfl, 1, _, rfl, ⟨okg 17 _ gc_17, gw_49 _, gw_656 _, ⟨by decide +kernel, by decide +kernel, by decide +kernel⟩, by decide +kernel⟩, gw_311 _, rfl, gw_312 _⟩,
  ⟨rfl, (by decide : 2 < 3)⟩,
  ⟨rfl, trivial⟩,
  ⟨rfl, (by decide : (Int8.ofInt 127).toInt32 = 127)⟩,
  ⟨rfl, trivial⟩,
  ⟨by decide, by decide, by decide, by decide, by decide, by decide, by decide, by decide, by decide, by decide, by decide, by decide, by decide, by decide, by decide, by decide, by decide, by decide, by decide, by decide, by decide, by decide, trivial⟩,
  ⟨rfl, trivial⟩,
  ⟨rfl, trivial⟩,
  ⟨rfl, trivial⟩,
  ⟨rfl, ⟨okg 66 _ gc_66, gw_60 _, Or.inl (gw_657 _), ⟨by decide +kernel, by decide +kernel, by decide +kernel⟩, by decide +kernel⟩, gw_658 _⟩,
  ⟨rfl, trivial⟩,
  ⟨rfl, _, _, _, _, okc_5 cA _, (by decide : 6 < 14), gw_159 _, trivial, ⟨rfl, rfl⟩⟩,
  ⟨rfl, (by decide : Int32.ofInt 4 = 4)⟩,
  ⟨rfl, trivial⟩,
  ⟨rfl, ⟨okg 51 _ gc_51, gw_60 _, Or.inl (gw_660 _), ⟨by decide +kernel, by decide +kernel, by decide +kernel⟩, by decide +kernel⟩, gw_661 _⟩,
  ⟨rfl, Or.inr rfl⟩,
  ⟨rfl, trivial⟩,
  ⟨rfl, trivial⟩,
  ⟨rfl, trivial⟩,
  ⟨rfl, _, _, _, _, okc_5 cA _, (by decide : 6 < 14), gw_159 _, trivial, ⟨rfl, rfl⟩⟩,
  ⟨rfl, trivial⟩,
  ⟨rfl, ⟨okg 66 _ gc_66, gw_60 _, Or.inl (gw_657 _), ⟨by decide +kernel, by decide +kernel, by decide +kernel⟩, by decide +kernel⟩, gw_658 _⟩,
  ⟨rfl, trivial⟩,
  ⟨rfl, trivial⟩,
  ⟨rfl, _, _, _, _, okc_5 cA _, (by decide : 6 < 14), gw_159 _, trivial, ⟨rfl, rfl⟩⟩,
  ⟨rfl, (by decide : Int32.ofInt 4 = 4)⟩,
  ⟨rfl, trivial⟩,
  ⟨rfl, ⟨okg 51 _ gc_51, gw_60 _, Or.inl (gw_660 _), ⟨by decide +kernel, by decide +kernel, by decide +kernel⟩, by decide +kernel⟩, gw_661 _⟩,
  ⟨rfl, Or.inr rfl⟩,
  ⟨rfl, trivial⟩,
  ⟨rfl, trivial⟩,
  ⟨rfl, trivial⟩,
  ⟨rfl, _, _, _, _, okc_5 cA _, (by decide : 6 < 14), gw_159 _, trivial, ⟨rfl, rfl⟩⟩,
  ⟨rfl, (by decide : Int32.ofInt 4 = 4)⟩,
  ⟨rfl, trivial⟩,
  ⟨rfl, trivial⟩,
  ⟨rfl, _, _, _, _, okc_5 cA _, (by decide : 6 < 14), gw_159 _, trivial, ⟨rfl, rfl⟩⟩,
  ⟨rfl, trivial⟩,
  ⟨rfl, ⟨okg 68 _ gc_68, gw_60 _, Or.inl (gw_667 _), ⟨by decide +kernel, by decide +kernel, by decide +kernel⟩, by decide +kernel⟩, gw_668 _⟩,
  ⟨rfl, trivial⟩,
  ⟨rfl, ⟨okg 51 _ gc_51, gw_60 _, Or.inl (gw_660 _), ⟨by decide +kernel, by decide +kernel, by decide +kernel⟩, by decide +kernel⟩, gw_661 _⟩,
  ⟨rfl, Or.inr rfl⟩,
  ⟨rfl, trivial⟩,
  ⟨rfl, trivial⟩,
  ⟨rfl, ⟨okg 52 _ gc_52, gw_60 _, Or.inl (gw_670 _), ⟨by decide +kernel, by decide +kernel, by decide +kernel⟩, by decide +kernel⟩, gw_671 _⟩,
  ⟨rfl, Or.inr rfl⟩,
  ⟨rfl, trivial⟩,
  ⟨rfl, trivial⟩,
  ⟨rfl, ⟨okg 53 _ gc_53, gw_60 _, Or.inl (gw_683 _), ⟨by decide +kernel, by decide +kernel, by decide +kernel⟩, by decide +kernel⟩, gw_684 _⟩,
  ⟨rfl, Or.inr rfl⟩,
  ⟨rfl, trivial⟩,
  ⟨rfl, trivial⟩,
  ⟨rfl, trivial⟩,
  ⟨rfl, ⟨okg 54 _ gc_54, gw_60 _, Or.inl (gw_696 _), ⟨by decide +kernel, by decide +kernel, by decide +kernel⟩, by decide +kernel⟩, gw_697 _⟩,
  ⟨rfl, Or.inr rfl⟩,
  ⟨rfl, trivial⟩,
  ⟨rfl, trivial⟩,
  ⟨rfl, trivial⟩,
  ⟨rfl, ⟨okg 56 _ gc_56, gw_60 _, Or.inl (gw_711 _), ⟨by decide +kernel, by decide +kernel, by decide +kernel⟩, by decide +kernel⟩, gw_712 _⟩,
  ⟨rfl, Or.inr rfl⟩,
  ⟨rfl, trivial⟩,
  ⟨rfl, trivial⟩,
  ⟨rfl, ⟨okg 57 _ gc_57, gw_60 _, Or.inl (gw_722 _), ⟨by decide +kernel, by decide +kernel, by decide +kernel⟩, by decide +kernel⟩, gw_723 _⟩,
  ⟨rfl, Or.inr rfl⟩,
  ⟨rfl, trivial⟩,
  ⟨rfl, trivial⟩,
  ⟨rfl, ⟨okg 58 _ gc_58, gw_60 _, Or.inl (gw_731 _), ⟨by decide +kernel, by decide +kernel, by decide +kernel⟩, by decide +kernel⟩, gw_732 _⟩,
  ⟨rfl, Or.inr rfl⟩,
  ⟨rfl, trivial⟩,
  ⟨rfl, (by decide : (Int8.ofInt 115).toInt32 = 115)⟩,
  ⟨rfl, (by decide : ((215 : Nat) : Int) + 8 = ((223 : Nat) : Int))⟩,
  ⟨rfl, (by decide : (Int8.ofInt (-2)).toInt32 = (-2))⟩,
  ⟨rfl, (by decide : ((220 : Nat) : Int) + 4 = ((224 : Nat) : Int))⟩,
  ⟨rfl, (by decide : Int32.ofInt 0 = 0)⟩,
  ⟨rfl, Or.inr rfl⟩,
  ⟨rfl, (by decide : Int32.ofInt 0 = 0)⟩,
  ⟨rfl, Or.inr rfl⟩, trivial⟩⟩
-- PartitionKernel$Machine.finish
set_option maxRecDepth 100000 in
theorem dc_51 : ∀ en ∈ cd_51, decode prog_5_method_3_code en.1 = .ok (en.2.1, en.2.2.1 - en.1) := by decide +kernel
set_option maxRecDepth 100000 in
set_option maxHeartbeats 4000000 in
theorem ok_51 (cA : Nat → ClassId) : mq_okm pg_cl (pg_tys cA) (pg_E cA) pg_Z pg_sw pg_mx pg_X 51 cd_51 := ⟨by decide +kernel, by decide +kernel, mq_ok_of dc_51 ⟨⟨rfl, trivial⟩,
  ⟨rfl, trivial⟩,
  ⟨rfl, _, _, _, _, okc_5 cA _, (by decide : 6 < 14), gw_159 _, Or.inl rfl, ⟨rfl, rfl⟩⟩,
  ⟨rfl, trivial⟩,
  ⟨rfl, trivial⟩,
  ⟨rfl, (by decide : (Int8.ofInt 7).toInt32 = 7)⟩,
  ⟨rfl, trivial⟩,
  ⟨rfl, (by decide : (Int8.ofInt 31).toInt32 = 31)⟩,
  ⟨rfl, trivial⟩,
  ⟨rfl, trivial⟩,
  ⟨rfl, 2, _, rfl, ⟨okg 44 _ gc_44, gw_50 _, gw_663 _, ⟨by decide +kernel, by decide +kernel, by decide +kernel⟩, by decide +kernel⟩, gw_664 _, rfl, gw_665 _⟩,
  ⟨rfl, (by decide : Int32.ofInt (-1) = (-1))⟩,
  ⟨rfl, Or.inr rfl⟩, trivial⟩⟩
-- PartitionKernel$Machine.jumpToRegister
set_option maxRecDepth 100000 in
theorem dc_52 : ∀ en ∈ cd_52, decode prog_5_method_4_code en.1 = .ok (en.2.1, en.2.2.1 - en.1) := by decide +kernel
set_option maxRecDepth 100000 in
set_option maxHeartbeats 4000000 in
theorem ok_52 (cA : Nat → ClassId) : mq_okm pg_cl (pg_tys cA) (pg_E cA) pg_Z pg_sw pg_mx pg_X 52 cd_52 := ⟨by decide +kernel, by decide +kernel, mq_ok_of dc_52 ⟨⟨rfl, trivial⟩,
  ⟨rfl, ⟨okg 61 _ gc_61, gw_60 _, Or.inl (gw_673 _), ⟨by decide +kernel, by decide +kernel, by decide +kernel⟩, by decide +kernel⟩, gw_674 _⟩,
  ⟨rfl, (by decide : ((4 : Nat) : Int) + 5 = ((9 : Nat) : Int))⟩,
  ⟨rfl, (by decide : Int32.ofInt 0 = 0)⟩,
  ⟨rfl, Or.inr rfl⟩,
  ⟨rfl, trivial⟩,
  ⟨rfl, trivial⟩,
  ⟨rfl, trivial⟩,
  ⟨rfl, _, _, _, _, okc_5 cA _, (by decide : 6 < 14), gw_159 _, trivial, ⟨rfl, rfl⟩⟩,
  ⟨rfl, (by decide : Int32.ofInt 4 = 4)⟩,
  ⟨rfl, trivial⟩,
  ⟨rfl, trivial⟩,
  ⟨rfl, trivial⟩,
  ⟨rfl, ⟨okg 63 _ gc_63, gw_60 _, Or.inl (gw_676 _), ⟨by decide +kernel, by decide +kernel, by decide +kernel⟩, by decide +kernel⟩, gw_677 _⟩,
  ⟨rfl, trivial⟩,
  ⟨rfl, ⟨okg 65 _ gc_65, gw_60 _, Or.inl (gw_680 _), ⟨by decide +kernel, by decide +kernel, by decide +kernel⟩, by decide +kernel⟩, gw_681 _⟩,
  ⟨rfl, trivial⟩,
  ⟨rfl, (by decide : (Int8.ofInt (-2)).toInt32 = (-2))⟩,
  ⟨rfl, trivial⟩,
  ⟨rfl, ⟨okg 51 _ gc_51, gw_60 _, Or.inl (gw_660 _), ⟨by decide +kernel, by decide +kernel, by decide +kernel⟩, by decide +kernel⟩, gw_661 _⟩,
  ⟨rfl, Or.inr rfl⟩, trivial⟩⟩
-- PartitionKernel$Machine.branch
set_option maxRecDepth 100000 in
theorem dc_53 : ∀ en ∈ cd_53, decode prog_5_method_5_code en.1 = .ok (en.2.1, en.2.2.1 - en.1) := by decide +kernel
set_option maxRecDepth 100000 in
set_option maxHeartbeats 4000000 in
theorem ok_53 (cA : Nat → ClassId) : mq_okm pg_cl (pg_tys cA) (pg_E cA) pg_Z pg_sw pg_mx pg_X 53 cd_53 := ⟨by decide +kernel, by decide +kernel, mq_ok_of dc_53 ⟨⟨rfl, trivial⟩,
  ⟨rfl, trivial⟩,
  ⟨rfl, ⟨okg 63 _ gc_63, gw_60 _, Or.inl (gw_676 _), ⟨by decide +kernel, by decide +kernel, by decide +kernel⟩, by decide +kernel⟩, gw_677 _⟩,
  ⟨rfl, (by decide : 2 < 5)⟩,
  ⟨rfl, trivial⟩,
  ⟨rfl, trivial⟩,
  ⟨rfl, ⟨okg 64 _ gc_64, gw_60 _, Or.inl (gw_686 _), ⟨by decide +kernel, by decide +kernel, by decide +kernel⟩, by decide +kernel⟩, gw_687 _⟩,
  ⟨rfl, (by decide : 3 < 5)⟩,
  ⟨rfl, trivial⟩,
  ⟨rfl, ⟨okg 61 _ gc_61, gw_60 _, Or.inl (gw_673 _), ⟨by decide +kernel, by decide +kernel, by decide +kernel⟩, by decide +kernel⟩, gw_674 _⟩,
  ⟨by decide, by decide, by decide, by decide, by decide, by decide, by decide, by decide, by decide, by decide, by decide, by decide, by decide, by decide, by decide, by decide, by decide, by decide, trivial⟩,
  ⟨rfl, trivial⟩,
  ⟨rfl, trivial⟩,
  ⟨rfl, (by decide : ((66 : Nat) : Int) + 7 = ((73 : Nat) : Int))⟩,
  ⟨rfl, (by decide : Int32.ofInt 1 = 1)⟩,
  ⟨rfl, (by decide : ((70 : Nat) : Int) + 4 = ((74 : Nat) : Int))⟩,
  ⟨rfl, (by decide : Int32.ofInt 0 = 0)⟩,
  ⟨rfl, (by decide : 4 < 5)⟩,
  ⟨rfl, (by decide : ((76 : Nat) : Int) + 78 = ((154 : Nat) : Int))⟩,
  ⟨rfl, trivial⟩,
  ⟨rfl, trivial⟩,
  ⟨rfl, (by decide : ((81 : Nat) : Int) + 7 = ((88 : Nat) : Int))⟩,
  ⟨rfl, (by decide : Int32.ofInt 1 = 1)⟩,
  ⟨rfl, (by decide : ((85 : Nat) : Int) + 4 = ((89 : Nat) : Int))⟩,
  ⟨rfl, (by decide : Int32.ofInt 0 = 0)⟩,
  ⟨rfl, (by decide : 4 < 5)⟩,
  ⟨rfl, (by decide : ((91 : Nat) : Int) + 63 = ((154 : Nat) : Int))⟩,
  ⟨rfl, trivial⟩,
  ⟨rfl, trivial⟩,
  ⟨rfl, (by decide : ((96 : Nat) : Int) + 7 = ((103 : Nat) : Int))⟩,
  ⟨rfl, (by decide : Int32.ofInt 1 = 1)⟩,
  ⟨rfl, (by decide : ((100 : Nat) : Int) + 4 = ((104 : Nat) : Int))⟩,
  ⟨rfl, (by decide : Int32.ofInt 0 = 0)⟩,
  ⟨rfl, (by decide : 4 < 5)⟩,
  ⟨rfl, (by decide : ((106 : Nat) : Int) + 48 = ((154 : Nat) : Int))⟩,
  ⟨rfl, trivial⟩,
  ⟨rfl, trivial⟩,
  ⟨rfl, (by decide : ((111 : Nat) : Int) + 7 = ((118 : Nat) : Int))⟩,
  ⟨rfl, (by decide : Int32.ofInt 1 = 1)⟩,
  ⟨rfl, (by decide : ((115 : Nat) : Int) + 4 = ((119 : Nat) : Int))⟩,
  ⟨rfl, (by decide : Int32.ofInt 0 = 0)⟩,
  ⟨rfl, (by decide : 4 < 5)⟩,
  ⟨rfl, (by decide : ((121 : Nat) : Int) + 33 = ((154 : Nat) : Int))⟩,
  ⟨rfl, trivial⟩,
  ⟨rfl, trivial⟩,
  ⟨rfl, ⟨okg 60 _ gc_60, gw_60 _, Or.inl (gw_689 _), ⟨by decide +kernel, by decide +kernel, by decide +kernel⟩, by decide +kernel⟩, gw_690 _⟩,
  ⟨rfl, (by decide : 4 < 5)⟩,
  ⟨rfl, (by decide : ((131 : Nat) : Int) + 23 = ((154 : Nat) : Int))⟩,
  ⟨rfl, trivial⟩,
  ⟨rfl, trivial⟩,
  ⟨rfl, ⟨okg 60 _ gc_60, gw_60 _, Or.inl (gw_689 _), ⟨by decide +kernel, by decide +kernel, by decide +kernel⟩, by decide +kernel⟩, gw_690 _⟩,
  ⟨rfl, (by decide : ((139 : Nat) : Int) + 7 = ((146 : Nat) : Int))⟩,
  ⟨rfl, (by decide : Int32.ofInt 1 = 1)⟩,
  ⟨rfl, (by decide : ((143 : Nat) : Int) + 4 = ((147 : Nat) : Int))⟩,
  ⟨rfl, (by decide : Int32.ofInt 0 = 0)⟩,
  ⟨rfl, (by decide : 4 < 5)⟩,
  ⟨rfl, (by decide : ((149 : Nat) : Int) + 5 = ((154 : Nat) : Int))⟩,
  ⟨rfl, (by decide : Int32.ofInt 0 = 0)⟩,
  ⟨rfl, Or.inr rfl⟩,
  ⟨rfl, trivial⟩,
  ⟨rfl, trivial⟩,
  ⟨rfl, _, _, _, _, okc_5 cA _, (by decide : 6 < 14), gw_159 _, trivial, ⟨rfl, rfl⟩⟩,
  ⟨rfl, trivial⟩,
  ⟨rfl, (by decide : ((161 : Nat) : Int) + 10 = ((171 : Nat) : Int))⟩,
  ⟨rfl, trivial⟩,
  ⟨rfl, ⟨okg 69 _ gc_69, gw_60 _, Or.inl (gw_693 _), ⟨by decide +kernel, by decide +kernel, by decide +kernel⟩, by decide +kernel⟩, gw_694 _⟩,
  ⟨rfl, (by decide : ((168 : Nat) : Int) + 4 = ((172 : Nat) : Int))⟩,
  ⟨rfl, (by decide : Int32.ofInt 4 = 4)⟩,
  ⟨rfl, trivial⟩,
  ⟨rfl, _, _, _, _, okc_5 cA _, (by decide : 6 < 14), gw_159 _, Or.inl rfl, ⟨rfl, rfl⟩⟩,
  ⟨rfl, (by decide : Int32.ofInt (-1) = (-1))⟩,
  ⟨rfl, Or.inr rfl⟩, trivial⟩⟩
-- PartitionKernel$Machine.load
set_option maxRecDepth 100000 in
theorem dc_54 : ∀ en ∈ cd_54, decode prog_5_method_6_code en.1 = .ok (en.2.1, en.2.2.1 - en.1) := by decide +kernel
set_option maxRecDepth 100000 in
set_option maxHeartbeats 4000000 in
theorem ok_54 (cA : Nat → ClassId) : mq_okm pg_cl (pg_tys cA) (pg_E cA) pg_Z pg_sw pg_mx pg_X 54 cd_54 := ⟨by decide +kernel, by decide +kernel, mq_ok_of dc_54 ⟨⟨rfl, trivial⟩,
  ⟨rfl, ⟨okg 61 _ gc_61, gw_60 _, Or.inl (gw_673 _), ⟨by decide +kernel, by decide +kernel, by decide +kernel⟩, by decide +kernel⟩, gw_674 _⟩,
  ⟨rfl, (by decide : 3 < 5)⟩,
  ⟨rfl, trivial⟩,
  ⟨rfl, (by decide : Int32.ofInt 3 = 3)⟩,
  ⟨rfl, (by decide : ((7 : Nat) : Int) + 8 = ((15 : Nat) : Int))⟩,
  ⟨rfl, trivial⟩,
  ⟨rfl, (by decide : Int32.ofInt 5 = 5)⟩,
  ⟨rfl, (by decide : ((12 : Nat) : Int) + 5 = ((17 : Nat) : Int))⟩,
  ⟨rfl, (by decide : Int32.ofInt 0 = 0)⟩,
  ⟨rfl, Or.inr rfl⟩,
  ⟨rfl, trivial⟩,
  ⟨rfl, trivial⟩,
  ⟨rfl, ⟨okg 63 _ gc_63, gw_60 _, Or.inl (gw_676 _), ⟨by decide +kernel, by decide +kernel, by decide +kernel⟩, by decide +kernel⟩, gw_677 _⟩,
  ⟨rfl, trivial⟩,
  ⟨rfl, ⟨okg 65 _ gc_65, gw_60 _, Or.inl (gw_680 _), ⟨by decide +kernel, by decide +kernel, by decide +kernel⟩, by decide +kernel⟩, gw_681 _⟩,
  ⟨rfl, trivial⟩,
  ⟨rfl, (by decide : 4 < 5)⟩,
  ⟨rfl, trivial⟩,
  ⟨rfl, (by decide : Int32.ofInt 1 = 1)⟩,
  ⟨rfl, trivial⟩,
  ⟨rfl, (by decide : Int32.ofInt 3 = 3)⟩,
  ⟨rfl, trivial⟩,
  ⟨rfl, trivial⟩,
  ⟨rfl, ⟨okg 16 _ gc_16, gw_49 _, Or.inl (gw_655 _), ⟨by decide +kernel, by decide +kernel, by decide +kernel⟩, by decide +kernel⟩, gw_315 _⟩,
  ⟨rfl, (by decide : ((39 : Nat) : Int) + 5 = ((44 : Nat) : Int))⟩,
  ⟨rfl, (by decide : Int32.ofInt 1 = 1)⟩,
  ⟨rfl, Or.inr rfl⟩,
  ⟨rfl, trivial⟩,
  ⟨rfl, trivial⟩,
  ⟨rfl, trivial⟩,
  ⟨rfl, trivial⟩,
  ⟨rfl, 1, _, rfl, ⟨okg 19 _ gc_19, gw_49 _, gw_699 _, ⟨by decide +kernel, by decide +kernel, by decide +kernel⟩, by decide +kernel⟩, gw_700 _, rfl, gw_701 _⟩,
  ⟨rfl, trivial⟩,
  ⟨rfl, ⟨okg 55 _ gc_55, gw_60 _, Or.inl (gw_707 _), ⟨by decide +kernel, by decide +kernel, by decide +kernel⟩, by decide +kernel⟩, gw_708 _⟩,
  ⟨rfl, trivial⟩,
  ⟨rfl, _, _, _, _, okc_5 cA _, (by decide : 6 < 14), gw_159 _, trivial, ⟨rfl, rfl⟩⟩,
  ⟨rfl, (by decide : Int32.ofInt 4 = 4)⟩,
  ⟨rfl, trivial⟩,
  ⟨rfl, ⟨okg 51 _ gc_51, gw_60 _, Or.inl (gw_660 _), ⟨by decide +kernel, by decide +kernel, by decide +kernel⟩, by decide +kernel⟩, gw_661 _⟩,
  ⟨rfl, Or.inr rfl⟩, trivial⟩⟩
-- PartitionKernel$Machine.widened
set_option maxRecDepth 100000 in
theorem dc_55 : ∀ en ∈ cd_55, decode prog_5_method_7_code en.1 = .ok (en.2.1, en.2.2.1 - en.1) := by decide +kernel
set_option maxRecDepth 100000 in
set_option maxHeartbeats 4000000 in
theorem ok_55 (cA : Nat → ClassId) : mq_okm pg_cl (pg_tys cA) (pg_E cA) pg_Z pg_sw pg_mx pg_X 55 cd_55 := ⟨by decide +kernel, by decide +kernel, mq_ok_of dc_55 ⟨⟨rfl, trivial⟩,
  ⟨by decide, by decide, by decide, by decide, by decide, by decide, by decide, by decide, by decide, by decide, by decide, by decide, by decide, by decide, trivial⟩,
  ⟨rfl, trivial⟩,
  ⟨rfl, trivial⟩,
  ⟨rfl, Or.inr rfl⟩,
  ⟨rfl, trivial⟩,
  ⟨rfl, trivial⟩,
  ⟨rfl, Or.inr rfl⟩,
  ⟨rfl, trivial⟩,
  ⟨rfl, (by decide : (Int16.ofInt 255).toInt32 = 255)⟩,
  ⟨rfl, trivial⟩,
  ⟨rfl, Or.inr rfl⟩,
  ⟨rfl, trivial⟩,
  ⟨rfl, gw_710 _⟩,
  ⟨rfl, trivial⟩,
  ⟨rfl, Or.inr rfl⟩,
  ⟨rfl, trivial⟩,
  ⟨rfl, Or.inr rfl⟩, trivial⟩⟩
end
section
/-! Rows of methods, by program. -/
-- PartitionKernel$Machine.store
set_option maxRecDepth 100000 in
theorem dc_56 : ∀ en ∈ cd_56, decode prog_5_method_8_code en.1 = .ok (en.2.1, en.2.2.1 - en.1) := by decide +kernel
set_option maxRecDepth 100000 in
set_option maxHeartbeats 4000000 in
theorem ok_56 (cA : Nat → ClassId) : mq_okm pg_cl (pg_tys cA) (pg_E cA) pg_Z pg_sw pg_mx pg_X 56 cd_56 := ⟨by decide +kernel, by decide +kernel, mq_ok_of dc_56 ⟨⟨rfl, trivial⟩,
  ⟨rfl, ⟨okg 61 _ gc_61, gw_60 _, Or.inl (gw_673 _), ⟨by decide +kernel, by decide +kernel, by decide +kernel⟩, by decide +kernel⟩, gw_674 _⟩,
  ⟨rfl, (by decide : 3 < 5)⟩,
  ⟨rfl, trivial⟩,
  ⟨rfl, (by decide : Int32.ofInt 2 = 2)⟩,
  ⟨rfl, (by decide : ((7 : Nat) : Int) + 5 = ((12 : Nat) : Int))⟩,
  ⟨rfl, (by decide : Int32.ofInt 0 = 0)⟩,
  ⟨rfl, Or.inr rfl⟩,
  ⟨rfl, trivial⟩,
  ⟨rfl, trivial⟩,
  ⟨rfl, ⟨okg 63 _ gc_63, gw_60 _, Or.inl (gw_676 _), ⟨by decide +kernel, by decide +kernel, by decide +kernel⟩, by decide +kernel⟩, gw_677 _⟩,
  ⟨rfl, trivial⟩,
  ⟨rfl, ⟨okg 67 _ gc_67, gw_60 _, Or.inl (gw_714 _), ⟨by decide +kernel, by decide +kernel, by decide +kernel⟩, by decide +kernel⟩, gw_715 _⟩,
  ⟨rfl, trivial⟩,
  ⟨rfl, (by decide : 4 < 5)⟩,
  ⟨rfl, trivial⟩,
  ⟨rfl, (by decide : Int32.ofInt 1 = 1)⟩,
  ⟨rfl, trivial⟩,
  ⟨rfl, trivial⟩,
  ⟨rfl, ⟨okg 16 _ gc_16, gw_49 _, Or.inl (gw_655 _), ⟨by decide +kernel, by decide +kernel, by decide +kernel⟩, by decide +kernel⟩, gw_315 _⟩,
  ⟨rfl, (by decide : ((32 : Nat) : Int) + 5 = ((37 : Nat) : Int))⟩,
  ⟨rfl, (by decide : Int32.ofInt 1 = 1)⟩,
  ⟨rfl, Or.inr rfl⟩,
  ⟨rfl, trivial⟩,
  ⟨rfl, trivial⟩,
  ⟨rfl, (by decide : Int32.ofInt 1 = 1)⟩,
  ⟨rfl, trivial⟩,
  ⟨rfl, trivial⟩,
  ⟨rfl, trivial⟩,
  ⟨rfl, trivial⟩,
  ⟨rfl, ⟨okg 64 _ gc_64, gw_60 _, Or.inl (gw_686 _), ⟨by decide +kernel, by decide +kernel, by decide +kernel⟩, by decide +kernel⟩, gw_687 _⟩,
  ⟨rfl, 3, _, rfl, ⟨okg 20 _ gc_20, gw_49 _, gw_717 _, ⟨by decide +kernel, by decide +kernel, by decide +kernel⟩, by decide +kernel⟩, gw_718 _, rfl, gw_719 _⟩,
  ⟨rfl, trivial⟩,
  ⟨rfl, trivial⟩,
  ⟨rfl, _, _, _, _, okc_5 cA _, (by decide : 6 < 14), gw_159 _, trivial, ⟨rfl, rfl⟩⟩,
  ⟨rfl, (by decide : Int32.ofInt 4 = 4)⟩,
  ⟨rfl, trivial⟩,
  ⟨rfl, _, _, _, _, okc_5 cA _, (by decide : 6 < 14), gw_159 _, Or.inl rfl, ⟨rfl, rfl⟩⟩,
  ⟨rfl, (by decide : Int32.ofInt (-1) = (-1))⟩,
  ⟨rfl, Or.inr rfl⟩, trivial⟩⟩
-- PartitionKernel$Machine.reckonWithImmediate
set_option maxRecDepth 100000 in
theorem dc_57 : ∀ en ∈ cd_57, decode prog_5_method_9_code en.1 = .ok (en.2.1, en.2.2.1 - en.1) := by decide +kernel
set_option maxRecDepth 100000 in
set_option maxHeartbeats 4000000 in
theorem ok_57 (cA : Nat → ClassId) : mq_okm pg_cl (pg_tys cA) (pg_E cA) pg_Z pg_sw pg_mx pg_X 57 cd_57 := ⟨by decide +kernel, by decide +kernel, mq_ok_of dc_57 ⟨⟨rfl, trivial⟩,
  ⟨rfl, ⟨okg 61 _ gc_61, gw_60 _, Or.inl (gw_673 _), ⟨by decide +kernel, by decide +kernel, by decide +kernel⟩, by decide +kernel⟩, gw_674 _⟩,
  ⟨rfl, (by decide : 2 < 5)⟩,
  ⟨rfl, trivial⟩,
  ⟨rfl, (by decide : Int32.ofInt 1 = 1)⟩,
  ⟨rfl, (by decide : ((7 : Nat) : Int) + 8 = ((15 : Nat) : Int))⟩,
  ⟨rfl, trivial⟩,
  ⟨rfl, (by decide : Int32.ofInt 5 = 5)⟩,
  ⟨rfl, (by decide : ((12 : Nat) : Int) + 7 = ((19 : Nat) : Int))⟩,
  ⟨rfl, (by decide : Int32.ofInt 1 = 1)⟩,
  ⟨rfl, (by decide : ((16 : Nat) : Int) + 4 = ((20 : Nat) : Int))⟩,
  ⟨rfl, (by decide : Int32.ofInt 0 = 0)⟩,
  ⟨rfl, (by decide : 3 < 5)⟩,
  ⟨rfl, trivial⟩,
  ⟨rfl, (by decide : Int32.ofInt 5 = 5)⟩,
  ⟨rfl, (by decide : ((23 : Nat) : Int) + 16 = ((39 : Nat) : Int))⟩,
  ⟨rfl, trivial⟩,
  ⟨rfl, ⟨okg 62 _ gc_62, gw_60 _, Or.inl (gw_725 _), ⟨by decide +kernel, by decide +kernel, by decide +kernel⟩, by decide +kernel⟩, gw_726 _⟩,
  ⟨rfl, (by decide : (Int8.ofInt 32).toInt32 = 32)⟩,
  ⟨rfl, (by decide : ((32 : Nat) : Int) + 7 = ((39 : Nat) : Int))⟩,
  ⟨rfl, (by decide : Int32.ofInt 1 = 1)⟩,
  ⟨rfl, (by decide : ((36 : Nat) : Int) + 4 = ((40 : Nat) : Int))⟩,
  ⟨rfl, (by decide : Int32.ofInt 0 = 0)⟩,
  ⟨rfl, (by decide : 4 < 5)⟩,
  ⟨rfl, trivial⟩,
  ⟨rfl, (by decide : ((43 : Nat) : Int) + 17 = ((60 : Nat) : Int))⟩,
  ⟨rfl, trivial⟩,
  ⟨rfl, ⟨okg 62 _ gc_62, gw_60 _, Or.inl (gw_725 _), ⟨by decide +kernel, by decide +kernel, by decide +kernel⟩, by decide +kernel⟩, gw_726 _⟩,
  ⟨rfl, (by decide : ((50 : Nat) : Int) + 10 = ((60 : Nat) : Int))⟩,
  ⟨rfl, trivial⟩,
  ⟨rfl, (by decide : ((55 : Nat) : Int) + 5 = ((60 : Nat) : Int))⟩,
  ⟨rfl, (by decide : Int32.ofInt 0 = 0)⟩,
  ⟨rfl, Or.inr rfl⟩,
  ⟨rfl, trivial⟩,
  ⟨rfl, trivial⟩,
  ⟨rfl, trivial⟩,
  ⟨rfl, trivial⟩,
  ⟨rfl, trivial⟩,
  ⟨rfl, trivial⟩,
  ⟨rfl, ⟨okg 63 _ gc_63, gw_60 _, Or.inl (gw_676 _), ⟨by decide +kernel, by decide +kernel, by decide +kernel⟩, by decide +kernel⟩, gw_677 _⟩,
  ⟨rfl, trivial⟩,
  ⟨rfl, ⟨okg 65 _ gc_65, gw_60 _, Or.inl (gw_680 _), ⟨by decide +kernel, by decide +kernel, by decide +kernel⟩, by decide +kernel⟩, gw_681 _⟩,
  ⟨rfl, ⟨okg 59 _ gc_59, gw_60 _, Or.inl (gw_728 _), ⟨by decide +kernel, by decide +kernel, by decide +kernel⟩, by decide +kernel⟩, gw_729 _⟩,
  ⟨rfl, trivial⟩,
  ⟨rfl, _, _, _, _, okc_5 cA _, (by decide : 6 < 14), gw_159 _, trivial, ⟨rfl, rfl⟩⟩,
  ⟨rfl, (by decide : Int32.ofInt 4 = 4)⟩,
  ⟨rfl, trivial⟩,
  ⟨rfl, ⟨okg 51 _ gc_51, gw_60 _, Or.inl (gw_660 _), ⟨by decide +kernel, by decide +kernel, by decide +kernel⟩, by decide +kernel⟩, gw_661 _⟩,
  ⟨rfl, Or.inr rfl⟩, trivial⟩⟩
-- PartitionKernel$Machine.reckonWithRegister
set_option maxRecDepth 100000 in
theorem dc_58 : ∀ en ∈ cd_58, decode prog_5_method_10_code en.1 = .ok (en.2.1, en.2.2.1 - en.1) := by decide +kernel
set_option maxRecDepth 100000 in
set_option maxHeartbeats 4000000 in
theorem ok_58 (cA : Nat → ClassId) : mq_okm pg_cl (pg_tys cA) (pg_E cA) pg_Z pg_sw pg_mx pg_X 58 cd_58 := ⟨by decide +kernel, by decide +kernel, mq_ok_of dc_58 ⟨⟨rfl, trivial⟩,
  ⟨rfl, ⟨okg 61 _ gc_61, gw_60 _, Or.inl (gw_673 _), ⟨by decide +kernel, by decide +kernel, by decide +kernel⟩, by decide +kernel⟩, gw_674 _⟩,
  ⟨rfl, (by decide : 2 < 4)⟩,
  ⟨rfl, trivial⟩,
  ⟨rfl, (by decide : ((6 : Nat) : Int) + 8 = ((14 : Nat) : Int))⟩,
  ⟨rfl, trivial⟩,
  ⟨rfl, (by decide : Int32.ofInt 5 = 5)⟩,
  ⟨rfl, (by decide : ((11 : Nat) : Int) + 16 = ((27 : Nat) : Int))⟩,
  ⟨rfl, trivial⟩,
  ⟨rfl, ⟨okg 62 _ gc_62, gw_60 _, Or.inl (gw_725 _), ⟨by decide +kernel, by decide +kernel, by decide +kernel⟩, by decide +kernel⟩, gw_726 _⟩,
  ⟨rfl, (by decide : (Int8.ofInt 32).toInt32 = 32)⟩,
  ⟨rfl, (by decide : ((20 : Nat) : Int) + 7 = ((27 : Nat) : Int))⟩,
  ⟨rfl, (by decide : Int32.ofInt 1 = 1)⟩,
  ⟨rfl, (by decide : ((24 : Nat) : Int) + 4 = ((28 : Nat) : Int))⟩,
  ⟨rfl, (by decide : Int32.ofInt 0 = 0)⟩,
  ⟨rfl, (by decide : 3 < 4)⟩,
  ⟨rfl, trivial⟩,
  ⟨rfl, ⟨okg 62 _ gc_62, gw_60 _, Or.inl (gw_725 _), ⟨by decide +kernel, by decide +kernel, by decide +kernel⟩, by decide +kernel⟩, gw_726 _⟩,
  ⟨rfl, (by decide : ((33 : Nat) : Int) + 9 = ((42 : Nat) : Int))⟩,
  ⟨rfl, trivial⟩,
  ⟨rfl, (by decide : ((37 : Nat) : Int) + 5 = ((42 : Nat) : Int))⟩,
  ⟨rfl, (by decide : Int32.ofInt 0 = 0)⟩,
  ⟨rfl, Or.inr rfl⟩,
  ⟨rfl, trivial⟩,
  ⟨rfl, trivial⟩,
  ⟨rfl, trivial⟩,
  ⟨rfl, trivial⟩,
  ⟨rfl, trivial⟩,
  ⟨rfl, trivial⟩,
  ⟨rfl, ⟨okg 63 _ gc_63, gw_60 _, Or.inl (gw_676 _), ⟨by decide +kernel, by decide +kernel, by decide +kernel⟩, by decide +kernel⟩, gw_677 _⟩,
  ⟨rfl, trivial⟩,
  ⟨rfl, trivial⟩,
  ⟨rfl, ⟨okg 64 _ gc_64, gw_60 _, Or.inl (gw_686 _), ⟨by decide +kernel, by decide +kernel, by decide +kernel⟩, by decide +kernel⟩, gw_687 _⟩,
  ⟨rfl, ⟨okg 59 _ gc_59, gw_60 _, Or.inl (gw_728 _), ⟨by decide +kernel, by decide +kernel, by decide +kernel⟩, by decide +kernel⟩, gw_729 _⟩,
  ⟨rfl, trivial⟩,
  ⟨rfl, _, _, _, _, okc_5 cA _, (by decide : 6 < 14), gw_159 _, trivial, ⟨rfl, rfl⟩⟩,
  ⟨rfl, (by decide : Int32.ofInt 4 = 4)⟩,
  ⟨rfl, trivial⟩,
  ⟨rfl, ⟨okg 51 _ gc_51, gw_60 _, Or.inl (gw_660 _), ⟨by decide +kernel, by decide +kernel, by decide +kernel⟩, by decide +kernel⟩, gw_661 _⟩,
  ⟨rfl, Or.inr rfl⟩, trivial⟩⟩
-- PartitionKernel$Machine.reckon
set_option maxRecDepth 100000 in
theorem dc_59 : ∀ en ∈ cd_59, decode prog_5_method_11_code en.1 = .ok (en.2.1, en.2.2.1 - en.1) := by decide +kernel
set_option maxRecDepth 100000 in
set_option maxHeartbeats 4000000 in
theorem ok_59 (cA : Nat → ClassId) : mq_okm pg_cl (pg_tys cA) (pg_E cA) pg_Z pg_sw pg_mx pg_X 59 cd_59 := ⟨by decide +kernel, by decide +kernel, mq_ok_of dc_59 ⟨⟨rfl, trivial⟩,
  ⟨by decide, by decide, by decide, by decide, by decide, by decide, by decide, by decide, by decide, by decide, by decide, by decide, by decide, by decide, by decide, by decide, trivial⟩,
  ⟨rfl, trivial⟩,
  ⟨rfl, (by decide : ((45 : Nat) : Int) + 9 = ((54 : Nat) : Int))⟩,
  ⟨rfl, trivial⟩,
  ⟨rfl, trivial⟩,
  ⟨rfl, trivial⟩,
  ⟨rfl, (by decide : ((51 : Nat) : Int) + 6 = ((57 : Nat) : Int))⟩,
  ⟨rfl, trivial⟩,
  ⟨rfl, trivial⟩,
  ⟨rfl, trivial⟩,
  ⟨rfl, Or.inr rfl⟩,
  ⟨rfl, trivial⟩,
  ⟨rfl, trivial⟩,
  ⟨rfl, trivial⟩,
  ⟨rfl, Or.inr rfl⟩,
  ⟨rfl, trivial⟩,
  ⟨rfl, trivial⟩,
  ⟨rfl, (by decide : ((64 : Nat) : Int) + 7 = ((71 : Nat) : Int))⟩,
  ⟨rfl, (by decide : Int32.ofInt 1 = 1)⟩,
  ⟨rfl, (by decide : ((68 : Nat) : Int) + 4 = ((72 : Nat) : Int))⟩,
  ⟨rfl, (by decide : Int32.ofInt 0 = 0)⟩,
  ⟨rfl, Or.inr rfl⟩,
  ⟨rfl, trivial⟩,
  ⟨rfl, trivial⟩,
  ⟨rfl, ⟨okg 60 _ gc_60, gw_60 _, Or.inl (gw_689 _), ⟨by decide +kernel, by decide +kernel, by decide +kernel⟩, by decide +kernel⟩, gw_690 _⟩,
  ⟨rfl, (by decide : ((78 : Nat) : Int) + 7 = ((85 : Nat) : Int))⟩,
  ⟨rfl, (by decide : Int32.ofInt 1 = 1)⟩,
  ⟨rfl, (by decide : ((82 : Nat) : Int) + 4 = ((86 : Nat) : Int))⟩,
  ⟨rfl, (by decide : Int32.ofInt 0 = 0)⟩,
  ⟨rfl, Or.inr rfl⟩,
  ⟨rfl, trivial⟩,
  ⟨rfl, trivial⟩,
  ⟨rfl, trivial⟩,
  ⟨rfl, Or.inr rfl⟩,
  ⟨rfl, trivial⟩,
  ⟨rfl, (by decide : ((92 : Nat) : Int) + 9 = ((101 : Nat) : Int))⟩,
  ⟨rfl, trivial⟩,
  ⟨rfl, trivial⟩,
  ⟨rfl, trivial⟩,
  ⟨rfl, (by decide : ((98 : Nat) : Int) + 6 = ((104 : Nat) : Int))⟩,
  ⟨rfl, trivial⟩,
  ⟨rfl, trivial⟩,
  ⟨rfl, trivial⟩,
  ⟨rfl, Or.inr rfl⟩,
  ⟨rfl, trivial⟩,
  ⟨rfl, trivial⟩,
  ⟨rfl, trivial⟩,
  ⟨rfl, Or.inr rfl⟩,
  ⟨rfl, trivial⟩,
  ⟨rfl, trivial⟩,
  ⟨rfl, trivial⟩,
  ⟨rfl, Or.inr rfl⟩, trivial⟩⟩
-- PartitionKernel$Machine.isBelow
set_option maxRecDepth 100000 in
theorem dc_60 : ∀ en ∈ cd_60, decode prog_5_method_12_code en.1 = .ok (en.2.1, en.2.2.1 - en.1) := by decide +kernel
set_option maxRecDepth 100000 in
set_option maxHeartbeats 4000000 in
theorem ok_60 (cA : Nat → ClassId) : mq_okm pg_cl (pg_tys cA) (pg_E cA) pg_Z pg_sw pg_mx pg_X 60 cd_60 := ⟨by decide +kernel, by decide +kernel, mq_ok_of dc_60 ⟨⟨rfl, trivial⟩,
  ⟨rfl, gw_692 _⟩,
  ⟨rfl, trivial⟩,
  ⟨rfl, trivial⟩,
  ⟨rfl, gw_692 _⟩,
  ⟨rfl, trivial⟩,
  ⟨rfl, (by decide : ((8 : Nat) : Int) + 7 = ((15 : Nat) : Int))⟩,
  ⟨rfl, (by decide : Int32.ofInt 1 = 1)⟩,
  ⟨rfl, (by decide : ((12 : Nat) : Int) + 4 = ((16 : Nat) : Int))⟩,
  ⟨rfl, (by decide : Int32.ofInt 0 = 0)⟩,
  ⟨rfl, Or.inl ⟨rfl, rfl⟩⟩, trivial⟩⟩
-- PartitionKernel$Machine.f3
set_option maxRecDepth 100000 in
theorem dc_61 : ∀ en ∈ cd_61, decode prog_5_method_13_code en.1 = .ok (en.2.1, en.2.2.1 - en.1) := by decide +kernel
set_option maxRecDepth 100000 in
set_option maxHeartbeats 4000000 in
theorem ok_61 (cA : Nat → ClassId) : mq_okm pg_cl (pg_tys cA) (pg_E cA) pg_Z pg_sw pg_mx pg_X 61 cd_61 := ⟨by decide +kernel, by decide +kernel, mq_ok_of dc_61 ⟨⟨rfl, trivial⟩,
  ⟨rfl, (by decide : (Int8.ofInt 12).toInt32 = 12)⟩,
  ⟨rfl, trivial⟩,
  ⟨rfl, (by decide : (Int8.ofInt 7).toInt32 = 7)⟩,
  ⟨rfl, trivial⟩,
  ⟨rfl, Or.inr rfl⟩, trivial⟩⟩
-- PartitionKernel$Machine.f7
set_option maxRecDepth 100000 in
theorem dc_62 : ∀ en ∈ cd_62, decode prog_5_method_14_code en.1 = .ok (en.2.1, en.2.2.1 - en.1) := by decide +kernel
set_option maxRecDepth 100000 in
set_option maxHeartbeats 4000000 in
theorem ok_62 (cA : Nat → ClassId) : mq_okm pg_cl (pg_tys cA) (pg_E cA) pg_Z pg_sw pg_mx pg_X 62 cd_62 := ⟨by decide +kernel, by decide +kernel, mq_ok_of dc_62 ⟨⟨rfl, trivial⟩,
  ⟨rfl, (by decide : (Int8.ofInt 25).toInt32 = 25)⟩,
  ⟨rfl, trivial⟩,
  ⟨rfl, Or.inr rfl⟩, trivial⟩⟩
-- PartitionKernel$Machine.left
set_option maxRecDepth 100000 in
theorem dc_63 : ∀ en ∈ cd_63, decode prog_5_method_15_code en.1 = .ok (en.2.1, en.2.2.1 - en.1) := by decide +kernel
set_option maxRecDepth 100000 in
set_option maxHeartbeats 4000000 in
theorem ok_63 (cA : Nat → ClassId) : mq_okm pg_cl (pg_tys cA) (pg_E cA) pg_Z pg_sw pg_mx pg_X 63 cd_63 := ⟨by decide +kernel, by decide +kernel, mq_ok_of dc_63 ⟨⟨rfl, trivial⟩,
  ⟨rfl, trivial⟩,
  ⟨rfl, (by decide : (Int8.ofInt 15).toInt32 = 15)⟩,
  ⟨rfl, trivial⟩,
  ⟨rfl, (by decide : (Int8.ofInt 31).toInt32 = 31)⟩,
  ⟨rfl, trivial⟩,
  ⟨rfl, 1, _, rfl, ⟨okg 43 _ gc_43, gw_50 _, gw_679 _, ⟨by decide +kernel, by decide +kernel, by decide +kernel⟩, by decide +kernel⟩, gw_330 _, rfl, gw_331 _⟩,
  ⟨rfl, Or.inr rfl⟩, trivial⟩⟩
-- PartitionKernel$Machine.right
set_option maxRecDepth 100000 in
theorem dc_64 : ∀ en ∈ cd_64, decode prog_5_method_16_code en.1 = .ok (en.2.1, en.2.2.1 - en.1) := by decide +kernel
set_option maxRecDepth 100000 in
set_option maxHeartbeats 4000000 in
theorem ok_64 (cA : Nat → ClassId) : mq_okm pg_cl (pg_tys cA) (pg_E cA) pg_Z pg_sw pg_mx pg_X 64 cd_64 := ⟨by decide +kernel, by decide +kernel, mq_ok_of dc_64 ⟨⟨rfl, trivial⟩,
  ⟨rfl, trivial⟩,
  ⟨rfl, (by decide : (Int8.ofInt 20).toInt32 = 20)⟩,
  ⟨rfl, trivial⟩,
  ⟨rfl, (by decide : (Int8.ofInt 31).toInt32 = 31)⟩,
  ⟨rfl, trivial⟩,
  ⟨rfl, 1, _, rfl, ⟨okg 43 _ gc_43, gw_50 _, gw_679 _, ⟨by decide +kernel, by decide +kernel, by decide +kernel⟩, by decide +kernel⟩, gw_330 _, rfl, gw_331 _⟩,
  ⟨rfl, Or.inr rfl⟩, trivial⟩⟩
-- PartitionKernel$Machine.immediate
set_option maxRecDepth 100000 in
theorem dc_65 : ∀ en ∈ cd_65, decode prog_5_method_17_code en.1 = .ok (en.2.1, en.2.2.1 - en.1) := by decide +kernel
set_option maxRecDepth 100000 in
set_option maxHeartbeats 4000000 in
theorem ok_65 (cA : Nat → ClassId) : mq_okm pg_cl (pg_tys cA) (pg_E cA) pg_Z pg_sw pg_mx pg_X 65 cd_65 := ⟨by decide +kernel, by decide +kernel, mq_ok_of dc_65 ⟨⟨rfl, trivial⟩,
  ⟨rfl, (by decide : (Int8.ofInt 20).toInt32 = 20)⟩,
  ⟨rfl, trivial⟩,
  ⟨rfl, Or.inr rfl⟩, trivial⟩⟩
-- PartitionKernel$Machine.upper
set_option maxRecDepth 100000 in
theorem dc_66 : ∀ en ∈ cd_66, decode prog_5_method_18_code en.1 = .ok (en.2.1, en.2.2.1 - en.1) := by decide +kernel
set_option maxRecDepth 100000 in
set_option maxHeartbeats 4000000 in
theorem ok_66 (cA : Nat → ClassId) : mq_okm pg_cl (pg_tys cA) (pg_E cA) pg_Z pg_sw pg_mx pg_X 66 cd_66 := ⟨by decide +kernel, by decide +kernel, mq_ok_of dc_66 ⟨⟨rfl, trivial⟩,
  ⟨rfl, (by decide : (Int16.ofInt (-4096)).toInt32 = (-4096))⟩,
  ⟨rfl, trivial⟩,
  ⟨rfl, Or.inr rfl⟩, trivial⟩⟩
-- PartitionKernel$Machine.storeOffset
set_option maxRecDepth 100000 in
theorem dc_67 : ∀ en ∈ cd_67, decode prog_5_method_19_code en.1 = .ok (en.2.1, en.2.2.1 - en.1) := by decide +kernel
set_option maxRecDepth 100000 in
set_option maxHeartbeats 4000000 in
theorem ok_67 (cA : Nat → ClassId) : mq_okm pg_cl (pg_tys cA) (pg_E cA) pg_Z pg_sw pg_mx pg_X 67 cd_67 := ⟨by decide +kernel, by decide +kernel, mq_ok_of dc_67 ⟨⟨rfl, trivial⟩,
  ⟨rfl, (by decide : (Int8.ofInt 25).toInt32 = 25)⟩,
  ⟨rfl, trivial⟩,
  ⟨rfl, (by decide : Int32.ofInt 5 = 5)⟩,
  ⟨rfl, trivial⟩,
  ⟨rfl, trivial⟩,
  ⟨rfl, (by decide : (Int8.ofInt 7).toInt32 = 7)⟩,
  ⟨rfl, trivial⟩,
  ⟨rfl, (by decide : (Int8.ofInt 31).toInt32 = 31)⟩,
  ⟨rfl, trivial⟩,
  ⟨rfl, trivial⟩,
  ⟨rfl, Or.inr rfl⟩, trivial⟩⟩
-- PartitionKernel$Machine.jumpOffset
set_option maxRecDepth 100000 in
theorem dc_68 : ∀ en ∈ cd_68, decode prog_5_method_20_code en.1 = .ok (en.2.1, en.2.2.1 - en.1) := by decide +kernel
set_option maxRecDepth 100000 in
set_option maxHeartbeats 4000000 in
theorem ok_68 (cA : Nat → ClassId) : mq_okm pg_cl (pg_tys cA) (pg_E cA) pg_Z pg_sw pg_mx pg_X 68 cd_68 := ⟨by decide +kernel, by decide +kernel, mq_ok_of dc_68 ⟨⟨rfl, trivial⟩,
  ⟨rfl, (by decide : (Int8.ofInt 31).toInt32 = 31)⟩,
  ⟨rfl, trivial⟩,
  ⟨rfl, (by decide : (Int8.ofInt 20).toInt32 = 20)⟩,
  ⟨rfl, trivial⟩,
  ⟨rfl, trivial⟩,
  ⟨rfl, (by decide : (Int8.ofInt 12).toInt32 = 12)⟩,
  ⟨rfl, trivial⟩,
  ⟨rfl, (by decide : (Int16.ofInt 255).toInt32 = 255)⟩,
  ⟨rfl, trivial⟩,
  ⟨rfl, (by decide : (Int8.ofInt 12).toInt32 = 12)⟩,
  ⟨rfl, trivial⟩,
  ⟨rfl, trivial⟩,
  ⟨rfl, trivial⟩,
  ⟨rfl, (by decide : (Int8.ofInt 20).toInt32 = 20)⟩,
  ⟨rfl, trivial⟩,
  ⟨rfl, (by decide : Int32.ofInt 1 = 1)⟩,
  ⟨rfl, trivial⟩,
  ⟨rfl, (by decide : (Int8.ofInt 11).toInt32 = 11)⟩,
  ⟨rfl, trivial⟩,
  ⟨rfl, trivial⟩,
  ⟨rfl, trivial⟩,
  ⟨rfl, (by decide : (Int8.ofInt 21).toInt32 = 21)⟩,
  ⟨rfl, trivial⟩,
  ⟨rfl, (by decide : (Int16.ofInt 1023).toInt32 = 1023)⟩,
  ⟨rfl, trivial⟩,
  ⟨rfl, (by decide : Int32.ofInt 1 = 1)⟩,
  ⟨rfl, trivial⟩,
  ⟨rfl, trivial⟩,
  ⟨rfl, Or.inr rfl⟩, trivial⟩⟩
-- PartitionKernel$Machine.branchOffset
set_option maxRecDepth 100000 in
theorem dc_69 : ∀ en ∈ cd_69, decode prog_5_method_21_code en.1 = .ok (en.2.1, en.2.2.1 - en.1) := by decide +kernel
set_option maxRecDepth 100000 in
set_option maxHeartbeats 4000000 in
theorem ok_69 (cA : Nat → ClassId) : mq_okm pg_cl (pg_tys cA) (pg_E cA) pg_Z pg_sw pg_mx pg_X 69 cd_69 := ⟨by decide +kernel, by decide +kernel, mq_ok_of dc_69 ⟨⟨rfl, trivial⟩,
  ⟨rfl, (by decide : (Int8.ofInt 31).toInt32 = 31)⟩,
  ⟨rfl, trivial⟩,
  ⟨rfl, (by decide : (Int8.ofInt 12).toInt32 = 12)⟩,
  ⟨rfl, trivial⟩,
  ⟨rfl, trivial⟩,
  ⟨rfl, (by decide : (Int8.ofInt 7).toInt32 = 7)⟩,
  ⟨rfl, trivial⟩,
  ⟨rfl, (by decide : Int32.ofInt 1 = 1)⟩,
  ⟨rfl, trivial⟩,
  ⟨rfl, (by decide : (Int8.ofInt 11).toInt32 = 11)⟩,
  ⟨rfl, trivial⟩,
  ⟨rfl, trivial⟩,
  ⟨rfl, trivial⟩,
  ⟨rfl, (by decide : (Int8.ofInt 25).toInt32 = 25)⟩,
  ⟨rfl, trivial⟩,
  ⟨rfl, (by decide : (Int8.ofInt 63).toInt32 = 63)⟩,
  ⟨rfl, trivial⟩,
  ⟨rfl, (by decide : Int32.ofInt 5 = 5)⟩,
  ⟨rfl, trivial⟩,
  ⟨rfl, trivial⟩,
  ⟨rfl, trivial⟩,
  ⟨rfl, (by decide : (Int8.ofInt 8).toInt32 = 8)⟩,
  ⟨rfl, trivial⟩,
  ⟨rfl, (by decide : (Int8.ofInt 15).toInt32 = 15)⟩,
  ⟨rfl, trivial⟩,
  ⟨rfl, (by decide : Int32.ofInt 1 = 1)⟩,
  ⟨rfl, trivial⟩,
  ⟨rfl, trivial⟩,
  ⟨rfl, Or.inr rfl⟩, trivial⟩⟩
-- PartitionKernel.<init>
set_option maxRecDepth 100000 in
theorem dc_70 : ∀ en ∈ cd_70, decode prog_1_method_1_code en.1 = .ok (en.2.1, en.2.2.1 - en.1) := by decide +kernel
set_option maxRecDepth 100000 in
set_option maxHeartbeats 4000000 in
theorem ok_70 (cA : Nat → ClassId) : mq_okm pg_cl (pg_tys cA) (pg_E cA) pg_Z pg_sw pg_mx pg_X 70 cd_70 := ⟨by decide +kernel, by decide +kernel, mq_ok_of dc_70 ⟨⟨rfl, trivial⟩,
  ⟨rfl, rfl, gw_66 _, gw_67 _, gw_obj _⟩,
  ⟨rfl, trivial⟩,
  ⟨rfl, (by decide : Int32.ofInt 4 = 4)⟩,
  ⟨rfl, (by decide : 20 ≠ 999), (by decide : 4 ≤ 65536), rfl, _, 4, rfl, gw_69 _, pX_ao4⟩,
  ⟨rfl, _, _, _, _, okc_6 cA _, (by decide : 0 < 8), gw_274 _, Or.inr ⟨rfl, rfl, rfl⟩, ⟨rfl, Or.inr ⟨_, rfl⟩⟩⟩,
  ⟨rfl, trivial⟩,
  ⟨rfl, (by decide : (Int8.ofInt 8).toInt32 = 8)⟩,
  ⟨rfl, (by decide : 21 ≠ 999), (by decide : 8 ≤ 65536), rfl, _, 5, rfl, gw_71 _, pX_ao5⟩,
  ⟨rfl, _, _, _, _, okc_6 cA _, (by decide : 1 < 8), gw_275 _, Or.inr ⟨rfl, rfl, rfl⟩, ⟨rfl, Or.inr ⟨_, rfl⟩⟩⟩,
  ⟨rfl, trivial⟩,
  ⟨rfl, fun _ => ⟨(by decide : 2 ≠ 999), _, _, _, _, okc_2 cA _, gw_73 _, gw_74 _, gw_46 _⟩⟩,
  ⟨rfl, trivial⟩,
  ⟨rfl, 0, rfl, ⟨okg 11 _ gc_11, gw_46 _, Or.inr ⟨_, pX_75⟩, ⟨by decide +kernel, by decide +kernel, by decide +kernel⟩, by decide +kernel⟩, rfl, gw_76 _, rfl⟩,
  ⟨rfl, _, _, _, _, okc_6 cA _, (by decide : 2 < 8), gw_276 _, Or.inr ⟨rfl, rfl, rfl⟩, ⟨rfl, Or.inl ⟨_, rfl⟩⟩⟩,
  ⟨rfl, trivial⟩,
  ⟨rfl, fun _ => ⟨(by decide : 1 ≠ 999), _, _, _, _, okc_1 cA _, gw_97 _, gw_98 _, gw_47 _⟩⟩,
  ⟨rfl, trivial⟩,
  ⟨rfl, 0, rfl, ⟨okg 8 _ gc_8, gw_47 _, Or.inr ⟨_, pX_99⟩, ⟨by decide +kernel, by decide +kernel, by decide +kernel⟩, by decide +kernel⟩, rfl, gw_100 _, rfl⟩,
  ⟨rfl, _, _, _, _, okc_6 cA _, (by decide : 3 < 8), gw_277 _, Or.inr ⟨rfl, rfl, rfl⟩, ⟨rfl, Or.inl ⟨_, rfl⟩⟩⟩,
  ⟨rfl, (by decide : Int32.ofInt 0 = 0)⟩,
  ⟨rfl, (by decide : 1 < 2)⟩,
  ⟨rfl, trivial⟩,
  ⟨rfl, (by decide : Int32.ofInt 4 = 4)⟩,
  ⟨rfl, (by decide : ((47 : Nat) : Int) + 23 = ((70 : Nat) : Int))⟩,
  ⟨rfl, trivial⟩,
  ⟨rfl, _, _, _, _, okc_6 cA _, (by decide : 0 < 8), gw_274 _, trivial, ⟨rfl, Or.inr ⟨_, rfl⟩⟩⟩,
  ⟨rfl, trivial⟩,
  ⟨rfl, fun _ => ⟨(by decide : 4 ≠ 999), _, _, _, _, okc_4 cA _, gw_69 _, gw_126 _, gw_48 _⟩⟩,
  ⟨rfl, trivial⟩,
  ⟨rfl, trivial⟩,
  ⟨rfl, 1, rfl, ⟨okg 22 _ gc_22, gw_48 _, Or.inl (gw_127 _), ⟨by decide +kernel, by decide +kernel, by decide +kernel⟩, by decide +kernel⟩, rfl, gw_128 _, rfl⟩,
  ⟨rfl, trivial⟩,
  ⟨rfl, (by decide : 1 < 2), (by decide : Int32.ofInt 1 = 1)⟩,
  ⟨rfl, (by decide : ((67 : Nat) : Int) + (-22) = ((45 : Nat) : Int))⟩,
  ⟨rfl, (by decide : Int32.ofInt 0 = 0)⟩,
  ⟨rfl, (by decide : 1 < 2)⟩,
  ⟨rfl, trivial⟩,
  ⟨rfl, (by decide : (Int8.ofInt 8).toInt32 = 8)⟩,
  ⟨rfl, (by decide : ((75 : Nat) : Int) + 22 = ((97 : Nat) : Int))⟩,
  ⟨rfl, trivial⟩,
  ⟨rfl, _, _, _, _, okc_6 cA _, (by decide : 1 < 8), gw_275 _, trivial, ⟨rfl, Or.inr ⟨_, rfl⟩⟩⟩,
  ⟨rfl, trivial⟩,
  ⟨rfl, fun _ => ⟨(by decide : 0 ≠ 999), _, _, _, _, okc_0 cA _, gw_71 _, gw_241 _, gw_51 _⟩⟩,
  ⟨rfl, trivial⟩,
  ⟨rfl, 0, rfl, ⟨okg 1 _ gc_1, gw_51 _, Or.inr ⟨_, pX_242⟩, ⟨by decide +kernel, by decide +kernel, by decide +kernel⟩, by decide +kernel⟩, rfl, gw_243 _, rfl⟩,
  ⟨rfl, trivial⟩,
  ⟨rfl, (by decide : 1 < 2), (by decide : Int32.ofInt 1 = 1)⟩,
  ⟨rfl, (by decide : ((94 : Nat) : Int) + (-22) = ((72 : Nat) : Int))⟩,
  ⟨rfl, rfl⟩, trivial⟩⟩
-- PartitionKernel.window
set_option maxRecDepth 100000 in
theorem dc_71 : ∀ en ∈ cd_71, decode prog_1_method_2_code en.1 = .ok (en.2.1, en.2.2.1 - en.1) := by decide +kernel
set_option maxRecDepth 100000 in
set_option maxHeartbeats 4000000 in
theorem ok_71 (cA : Nat → ClassId) : mq_okm pg_cl (pg_tys cA) (pg_E cA) pg_Z pg_sw pg_mx pg_X 71 cd_71 := ⟨by decide +kernel, by decide +kernel, mq_ok_of dc_71 ⟨⟨rfl, trivial⟩,
  ⟨rfl, ⟨okg 86 _ gc_86, gw_45 _, Or.inl (gw_307 _), ⟨by decide +kernel, by decide +kernel, by decide +kernel⟩, by decide +kernel⟩, gw_308 _⟩,
  ⟨rfl, (by decide : ((4 : Nat) : Int) + 13 = ((17 : Nat) : Int))⟩,
  ⟨rfl, fun h => by cases h⟩,
  ⟨rfl, trivial⟩,
  ⟨rfl, (by decide : Int32.ofInt 1 = 1)⟩,
  ⟨rfl, (by decide : ((19 : Nat) : Int) + 9 = ((28 : Nat) : Int))⟩,
  ⟨rfl, trivial⟩,
  ⟨rfl, (by decide : (Int8.ofInt 100).toInt32 = 100)⟩,
  ⟨rfl, (by decide : ((25 : Nat) : Int) + 13 = ((38 : Nat) : Int))⟩,
  ⟨rfl, fun h => by cases h⟩,
  ⟨rfl, trivial⟩,
  ⟨rfl, _, _, _, _, okc_6 cA _, (by decide : 7 < 8), gw_281 _, trivial, ⟨rfl, rfl⟩⟩,
  ⟨rfl, (by decide : ((42 : Nat) : Int) + 15 = ((57 : Nat) : Int))⟩,
  ⟨rfl, trivial⟩,
  ⟨rfl, _, _, _, _, okc_6 cA _, (by decide : 2 < 8), gw_276 _, trivial, ⟨rfl, Or.inl ⟨_, rfl⟩⟩⟩,
  ⟨rfl, trivial⟩,
  ⟨rfl, trivial⟩,
  ⟨rfl, 2, _, rfl, ⟨okg 12 _ gc_12, gw_46 _, gw_498 _, ⟨by decide +kernel, by decide +kernel, by decide +kernel⟩, by decide +kernel⟩, gw_499 _, rfl, gw_500 _⟩,
  ⟨rfl, (by decide : ((54 : Nat) : Int) + 13 = ((67 : Nat) : Int))⟩,
  ⟨rfl, fun h => by cases h⟩,
  ⟨rfl, rfl⟩, trivial⟩⟩
-- PartitionKernel.process
set_option maxRecDepth 100000 in
theorem dc_72 : ∀ en ∈ cd_72, decode prog_1_method_3_code en.1 = .ok (en.2.1, en.2.2.1 - en.1) := by decide +kernel
set_option maxRecDepth 100000 in
set_option maxHeartbeats 4000000 in
theorem ok_72 (cA : Nat → ClassId) : mq_okm pg_cl (pg_tys cA) (pg_E cA) pg_Z pg_sw pg_mx pg_X 72 cd_72 := ⟨by decide +kernel, by decide +kernel, mq_ok_of dc_72 ⟨⟨rfl, trivial⟩,
  ⟨rfl, trivial⟩,
  ⟨rfl, 1, _, rfl, ⟨okg 89 _ gc_89, gw_45 _, gw_303 _, ⟨by decide +kernel, by decide +kernel, by decide +kernel⟩, by decide +kernel⟩, gw_305 _, rfl, gw_0 _⟩,
  ⟨rfl, (by decide : 6 < 8)⟩,
  ⟨rfl, trivial⟩,
  ⟨rfl, (by decide : ((9 : Nat) : Int) + 13 = ((22 : Nat) : Int))⟩,
  ⟨rfl, fun h => by cases h⟩,
  ⟨rfl, trivial⟩,
  ⟨rfl, ⟨okg 87 _ gc_87, gw_45 _, Or.inl (gw_525 _), ⟨by decide +kernel, by decide +kernel, by decide +kernel⟩, by decide +kernel⟩, gw_526 _⟩,
  ⟨rfl, (by decide : ((26 : Nat) : Int) + 19 = ((45 : Nat) : Int))⟩,
  ⟨rfl, trivial⟩,
  ⟨rfl, ⟨okg 88 _ gc_88, gw_45 _, Or.inl (gw_528 _), ⟨by decide +kernel, by decide +kernel, by decide +kernel⟩, by decide +kernel⟩, gw_529 _⟩,
  ⟨rfl, (by decide : ((34 : Nat) : Int) + 11 = ((45 : Nat) : Int))⟩,
  ⟨rfl, trivial⟩,
  ⟨rfl, ⟨okg 88 _ gc_88, gw_45 _, Or.inl (gw_528 _), ⟨by decide +kernel, by decide +kernel, by decide +kernel⟩, by decide +kernel⟩, gw_529 _⟩,
  ⟨rfl, (by decide : ((42 : Nat) : Int) + 13 = ((55 : Nat) : Int))⟩,
  ⟨rfl, fun h => by cases h⟩,
  ⟨rfl, trivial⟩,
  ⟨rfl, _, _, _, _, okc_6 cA _, (by decide : 7 < 8), gw_281 _, trivial, ⟨rfl, rfl⟩⟩,
  ⟨rfl, (by decide : ((59 : Nat) : Int) + 7 = ((66 : Nat) : Int))⟩,
  ⟨rfl, (by decide : Int32.ofInt (-1) = (-1))⟩,
  ⟨rfl, (by decide : ((63 : Nat) : Int) + 14 = ((77 : Nat) : Int))⟩,
  ⟨rfl, trivial⟩,
  ⟨rfl, trivial⟩,
  ⟨rfl, trivial⟩,
  ⟨rfl, trivial⟩,
  ⟨rfl, trivial⟩,
  ⟨rfl, 4, _, rfl, ⟨okg 23 _ gc_23, gw_48 _, gw_533 _, ⟨by decide +kernel, by decide +kernel, by decide +kernel⟩, by decide +kernel⟩, gw_534 _, rfl, gw_535 _⟩,
  ⟨rfl, (by decide : 7 < 8)⟩,
  ⟨rfl, trivial⟩,
  ⟨rfl, (by decide : Int32.ofInt (-1) = (-1))⟩,
  ⟨rfl, (by decide : ((82 : Nat) : Int) + 13 = ((95 : Nat) : Int))⟩,
  ⟨rfl, fun h => by cases h⟩,
  ⟨rfl, trivial⟩,
  ⟨rfl, Or.inr rfl⟩, trivial⟩⟩
end
section
/-! Rows of methods, by program. -/
-- PartitionKernel.channel
set_option maxRecDepth 100000 in
theorem dc_73 : ∀ en ∈ cd_73, decode prog_1_method_4_code en.1 = .ok (en.2.1, en.2.2.1 - en.1) := by decide +kernel
set_option maxRecDepth 100000 in
set_option maxHeartbeats 4000000 in
theorem ok_73 (cA : Nat → ClassId) : mq_okm pg_cl (pg_tys cA) (pg_E cA) pg_Z pg_sw pg_mx pg_X 73 cd_73 := ⟨by decide +kernel, by decide +kernel, mq_ok_of dc_73 ⟨⟨rfl, trivial⟩,
  ⟨rfl, ⟨okg 86 _ gc_86, gw_45 _, Or.inl (gw_307 _), ⟨by decide +kernel, by decide +kernel, by decide +kernel⟩, by decide +kernel⟩, gw_308 _⟩,
  ⟨rfl, (by decide : ((4 : Nat) : Int) + 10 = ((14 : Nat) : Int))⟩,
  ⟨rfl, trivial⟩,
  ⟨rfl, ⟨okg 86 _ gc_86, gw_45 _, Or.inl (gw_307 _), ⟨by decide +kernel, by decide +kernel, by decide +kernel⟩, by decide +kernel⟩, gw_308 _⟩,
  ⟨rfl, (by decide : ((11 : Nat) : Int) + 13 = ((24 : Nat) : Int))⟩,
  ⟨rfl, fun h => by cases h⟩,
  ⟨rfl, trivial⟩,
  ⟨rfl, (by decide : ((25 : Nat) : Int) + 19 = ((44 : Nat) : Int))⟩,
  ⟨rfl, trivial⟩,
  ⟨rfl, (by decide : Int32.ofInt 1 = 1)⟩,
  ⟨rfl, (by decide : ((31 : Nat) : Int) + 21 = ((52 : Nat) : Int))⟩,
  ⟨rfl, trivial⟩,
  ⟨rfl, (by decide : (Int8.ofInt 8).toInt32 = 8)⟩,
  ⟨rfl, (by decide : ((38 : Nat) : Int) + 24 = ((62 : Nat) : Int))⟩,
  ⟨rfl, (by decide : ((41 : Nat) : Int) + 11 = ((52 : Nat) : Int))⟩,
  ⟨rfl, trivial⟩,
  ⟨rfl, ⟨okg 88 _ gc_88, gw_45 _, Or.inl (gw_528 _), ⟨by decide +kernel, by decide +kernel, by decide +kernel⟩, by decide +kernel⟩, gw_529 _⟩,
  ⟨rfl, (by decide : ((49 : Nat) : Int) + 13 = ((62 : Nat) : Int))⟩,
  ⟨rfl, fun h => by cases h⟩,
  ⟨rfl, trivial⟩,
  ⟨rfl, _, _, _, _, okc_6 cA _, (by decide : 7 < 8), gw_281 _, trivial, ⟨rfl, rfl⟩⟩,
  ⟨rfl, (by decide : ((66 : Nat) : Int) + 12 = ((78 : Nat) : Int))⟩,
  ⟨rfl, trivial⟩,
  ⟨rfl, _, _, _, _, okc_6 cA _, (by decide : 4 < 8), gw_278 _, trivial, ⟨rfl, rfl⟩⟩,
  ⟨rfl, (by decide : (Int8.ofInt 8).toInt32 = 8)⟩,
  ⟨rfl, (by decide : ((75 : Nat) : Int) + 13 = ((88 : Nat) : Int))⟩,
  ⟨rfl, fun h => by cases h⟩,
  ⟨rfl, trivial⟩,
  ⟨rfl, _, _, _, _, okc_6 cA _, (by decide : 1 < 8), gw_275 _, trivial, ⟨rfl, Or.inr ⟨_, rfl⟩⟩⟩,
  ⟨rfl, trivial⟩,
  ⟨rfl, _, _, _, _, okc_6 cA _, (by decide : 4 < 8), gw_278 _, trivial, ⟨rfl, rfl⟩⟩,
  ⟨rfl, trivial⟩,
  ⟨rfl, trivial⟩,
  ⟨rfl, trivial⟩,
  ⟨rfl, trivial⟩,
  ⟨rfl, trivial⟩,
  ⟨rfl, 4, _, rfl, ⟨okg 2 _ gc_2, gw_51 _, gw_548 _, ⟨by decide +kernel, by decide +kernel, by decide +kernel⟩, by decide +kernel⟩, gw_549 _, rfl, gw_550 _⟩,
  ⟨rfl, trivial⟩,
  ⟨rfl, trivial⟩,
  ⟨rfl, _, _, _, _, okc_6 cA _, (by decide : 4 < 8), gw_278 _, trivial, ⟨rfl, rfl⟩⟩,
  ⟨rfl, (by decide : Int32.ofInt 1 = 1)⟩,
  ⟨rfl, trivial⟩,
  ⟨rfl, _, _, _, _, okc_6 cA _, (by decide : 4 < 8), gw_278 _, Or.inl rfl, ⟨rfl, rfl⟩⟩,
  ⟨rfl, trivial⟩,
  ⟨rfl, _, _, _, _, okc_6 cA _, (by decide : 4 < 8), gw_278 _, trivial, ⟨rfl, rfl⟩⟩,
  ⟨rfl, (by decide : Int32.ofInt 1 = 1)⟩,
  ⟨rfl, trivial⟩,
  ⟨rfl, Or.inr rfl⟩, trivial⟩⟩
-- PartitionKernel.action
set_option maxRecDepth 100000 in
theorem dc_74 : ∀ en ∈ cd_74, decode prog_1_method_5_code en.1 = .ok (en.2.1, en.2.2.1 - en.1) := by decide +kernel
set_option maxRecDepth 100000 in
set_option maxHeartbeats 4000000 in
theorem ok_74 (cA : Nat → ClassId) : mq_okm pg_cl (pg_tys cA) (pg_E cA) pg_Z pg_sw pg_mx pg_X 74 cd_74 := ⟨by decide +kernel, by decide +kernel, mq_ok_of dc_74 ⟨⟨rfl, trivial⟩,
  ⟨rfl, trivial⟩,
  ⟨rfl, 1, _, rfl, ⟨okg 89 _ gc_89, gw_45 _, gw_303 _, ⟨by decide +kernel, by decide +kernel, by decide +kernel⟩, by decide +kernel⟩, gw_305 _, rfl, gw_0 _⟩,
  ⟨rfl, (by decide : 4 < 5)⟩,
  ⟨rfl, trivial⟩,
  ⟨rfl, (by decide : ((9 : Nat) : Int) + 12 = ((21 : Nat) : Int))⟩,
  ⟨rfl, trivial⟩,
  ⟨rfl, (by decide : ((13 : Nat) : Int) + 8 = ((21 : Nat) : Int))⟩,
  ⟨rfl, trivial⟩,
  ⟨rfl, (by decide : Int32.ofInt 4 = 4)⟩,
  ⟨rfl, (by decide : ((18 : Nat) : Int) + 13 = ((31 : Nat) : Int))⟩,
  ⟨rfl, fun h => by cases h⟩,
  ⟨rfl, trivial⟩,
  ⟨rfl, (by decide : ((32 : Nat) : Int) + 8 = ((40 : Nat) : Int))⟩,
  ⟨rfl, trivial⟩,
  ⟨rfl, (by decide : Int32.ofInt 4 = 4)⟩,
  ⟨rfl, (by decide : ((37 : Nat) : Int) + 13 = ((50 : Nat) : Int))⟩,
  ⟨rfl, fun h => by cases h⟩,
  ⟨rfl, trivial⟩,
  ⟨rfl, _, _, _, _, okc_4 cA _, (by decide : 4 < 9), gw_214 _, trivial, ⟨rfl, Or.inr ⟨_, rfl⟩⟩⟩,
  ⟨rfl, trivial⟩,
  ⟨rfl, trivial⟩,
  ⟨rfl, trivial⟩,
  ⟨rfl, rfl⟩, trivial⟩⟩
-- PartitionKernel.poke
set_option maxRecDepth 100000 in
theorem dc_75 : ∀ en ∈ cd_75, decode prog_1_method_6_code en.1 = .ok (en.2.1, en.2.2.1 - en.1) := by decide +kernel
set_option maxRecDepth 100000 in
set_option maxHeartbeats 4000000 in
theorem ok_75 (cA : Nat → ClassId) : mq_okm pg_cl (pg_tys cA) (pg_E cA) pg_Z pg_sw pg_mx pg_X 75 cd_75 := ⟨by decide +kernel, by decide +kernel, mq_ok_of dc_75 ⟨⟨rfl, trivial⟩,
  ⟨rfl, trivial⟩,
  ⟨rfl, 1, _, rfl, ⟨okg 89 _ gc_89, gw_45 _, gw_303 _, ⟨by decide +kernel, by decide +kernel, by decide +kernel⟩, by decide +kernel⟩, gw_305 _, rfl, gw_0 _⟩,
  ⟨rfl, (by decide : 4 < 5)⟩,
  ⟨rfl, trivial⟩,
  ⟨rfl, (by decide : ((9 : Nat) : Int) + 11 = ((20 : Nat) : Int))⟩,
  ⟨rfl, trivial⟩,
  ⟨rfl, (by decide : Int32.ofInt 4 = 4)⟩,
  ⟨rfl, ⟨okg 16 _ gc_16, gw_49 _, Or.inl (gw_568 _), ⟨by decide +kernel, by decide +kernel, by decide +kernel⟩, by decide +kernel⟩, gw_315 _⟩,
  ⟨rfl, (by decide : ((17 : Nat) : Int) + 13 = ((30 : Nat) : Int))⟩,
  ⟨rfl, fun h => by cases h⟩,
  ⟨rfl, trivial⟩,
  ⟨rfl, _, _, _, _, okc_4 cA _, (by decide : 1 < 9), gw_209 _, trivial, ⟨rfl, Or.inl ⟨_, rfl⟩⟩⟩,
  ⟨rfl, trivial⟩,
  ⟨rfl, trivial⟩,
  ⟨rfl, 2, _, rfl, ⟨okg 18 _ gc_18, gw_49 _, gw_570 _, ⟨by decide +kernel, by decide +kernel, by decide +kernel⟩, by decide +kernel⟩, gw_571 _, rfl, gw_572 _⟩,
  ⟨rfl, rfl⟩, trivial⟩⟩
-- PartitionKernel.begin
set_option maxRecDepth 100000 in
theorem dc_76 : ∀ en ∈ cd_76, decode prog_1_method_7_code en.1 = .ok (en.2.1, en.2.2.1 - en.1) := by decide +kernel
set_option maxRecDepth 100000 in
set_option maxHeartbeats 4000000 in
theorem ok_76 (cA : Nat → ClassId) : mq_okm pg_cl (pg_tys cA) (pg_E cA) pg_Z pg_sw pg_mx pg_X 76 cd_76 := ⟨by decide +kernel, by decide +kernel, mq_ok_of dc_76 ⟨⟨rfl, trivial⟩,
  ⟨rfl, _, _, _, _, okc_6 cA _, (by decide : 7 < 8), gw_281 _, trivial, ⟨rfl, rfl⟩⟩,
  ⟨rfl, (by decide : ((4 : Nat) : Int) + 13 = ((17 : Nat) : Int))⟩,
  ⟨rfl, trivial⟩,
  ⟨rfl, _, _, _, _, okc_6 cA _, (by decide : 2 < 8), gw_276 _, trivial, ⟨rfl, Or.inl ⟨_, rfl⟩⟩⟩,
  ⟨rfl, _, _, _, _, okc_2 cA _, (by decide : 2 < 5), gw_82 _, trivial, ⟨rfl, rfl⟩⟩,
  ⟨rfl, (by decide : ((14 : Nat) : Int) + 13 = ((27 : Nat) : Int))⟩,
  ⟨rfl, fun h => by cases h⟩,
  ⟨rfl, trivial⟩,
  ⟨rfl, (by decide : Int32.ofInt 1 = 1)⟩,
  ⟨rfl, _, _, _, _, okc_6 cA _, (by decide : 7 < 8), gw_281 _, Or.inl rfl, ⟨rfl, rfl⟩⟩,
  ⟨rfl, (by decide : Int32.ofInt 0 = 0)⟩,
  ⟨rfl, (by decide : 1 < 2)⟩,
  ⟨rfl, trivial⟩,
  ⟨rfl, (by decide : Int32.ofInt 4 = 4)⟩,
  ⟨rfl, (by decide : ((36 : Nat) : Int) + 22 = ((58 : Nat) : Int))⟩,
  ⟨rfl, trivial⟩,
  ⟨rfl, _, _, _, _, okc_6 cA _, (by decide : 0 < 8), gw_274 _, trivial, ⟨rfl, Or.inr ⟨_, rfl⟩⟩⟩,
  ⟨rfl, trivial⟩,
  ⟨rfl, trivial⟩,
  ⟨rfl, trivial⟩,
  ⟨rfl, _, _, _, _, okc_6 cA _, (by decide : 5 < 8), gw_279 _, trivial, ⟨rfl, rfl⟩⟩,
  ⟨rfl, 1, _, rfl, ⟨okg 28 _ gc_28, gw_48 _, gw_582 _, ⟨by decide +kernel, by decide +kernel, by decide +kernel⟩, by decide +kernel⟩, gw_583 _, rfl, gw_584 _⟩,
  ⟨rfl, (by decide : 1 < 2), (by decide : Int32.ofInt 1 = 1)⟩,
  ⟨rfl, (by decide : ((55 : Nat) : Int) + (-21) = ((34 : Nat) : Int))⟩,
  ⟨rfl, rfl⟩, trivial⟩⟩
-- PartitionKernel.run
set_option maxRecDepth 100000 in
theorem dc_77 : ∀ en ∈ cd_77, decode prog_1_method_8_code en.1 = .ok (en.2.1, en.2.2.1 - en.1) := by decide +kernel
set_option maxRecDepth 100000 in
set_option maxHeartbeats 4000000 in
theorem ok_77 (cA : Nat → ClassId) : mq_okm pg_cl (pg_tys cA) (pg_E cA) pg_Z pg_sw pg_mx pg_X 77 cd_77 := ⟨by decide +kernel, by decide +kernel, mq_ok_of dc_77 ⟨⟨rfl, trivial⟩,
  ⟨rfl, _, _, _, _, okc_6 cA _, (by decide : 7 < 8), gw_281 _, trivial, ⟨rfl, rfl⟩⟩,
  ⟨rfl, (by decide : ((4 : Nat) : Int) + 13 = ((17 : Nat) : Int))⟩,
  ⟨rfl, fun h => by cases h⟩,
  ⟨rfl, trivial⟩,
  ⟨rfl, (by decide : ((18 : Nat) : Int) + 10 = ((28 : Nat) : Int))⟩,
  ⟨rfl, trivial⟩,
  ⟨rfl, (by decide : (Int16.ofInt 500).toInt32 = 500)⟩,
  ⟨rfl, (by decide : ((25 : Nat) : Int) + 13 = ((38 : Nat) : Int))⟩,
  ⟨rfl, fun h => by cases h⟩,
  ⟨rfl, trivial⟩,
  ⟨rfl, _, _, _, _, okc_6 cA _, (by decide : 6 < 8), gw_280 _, trivial, ⟨rfl, rfl⟩⟩,
  ⟨rfl, (by decide : 2 < 5)⟩,
  ⟨rfl, (by decide : Int32.ofInt 0 = 0)⟩,
  ⟨rfl, (by decide : 3 < 5)⟩,
  ⟨rfl, trivial⟩,
  ⟨rfl, trivial⟩,
  ⟨rfl, (by decide : ((47 : Nat) : Int) + 58 = ((105 : Nat) : Int))⟩,
  ⟨rfl, trivial⟩,
  ⟨rfl, trivial⟩,
  ⟨rfl, _, _, _, _, okc_6 cA _, (by decide : 2 < 8), gw_276 _, trivial, ⟨rfl, Or.inl ⟨_, rfl⟩⟩⟩,
  ⟨rfl, 0, _, rfl, ⟨okg 13 _ gc_13, gw_46 _, gw_400 _, ⟨by decide +kernel, by decide +kernel, by decide +kernel⟩, by decide +kernel⟩, gw_401 _, rfl, gw_402 _⟩,
  ⟨rfl, 1, _, rfl, ⟨okg 89 _ gc_89, gw_45 _, gw_303 _, ⟨by decide +kernel, by decide +kernel, by decide +kernel⟩, by decide +kernel⟩, gw_305 _, rfl, gw_0 _⟩,
  ⟨rfl, (by decide : 4 < 5)⟩,
  ⟨rfl, trivial⟩,
  ⟨rfl, (by decide : ((65 : Nat) : Int) + 17 = ((82 : Nat) : Int))⟩,
  ⟨rfl, trivial⟩,
  ⟨rfl, _, _, _, _, okc_4 cA _, (by decide : 8 < 9), gw_221 _, trivial, ⟨rfl, rfl⟩⟩,
  ⟨rfl, (by decide : ((73 : Nat) : Int) + 9 = ((82 : Nat) : Int))⟩,
  ⟨rfl, trivial⟩,
  ⟨rfl, trivial⟩,
  ⟨rfl, 1, _, rfl, ⟨okg 92 _ gc_92, gw_45 _, gw_611 _, ⟨by decide +kernel, by decide +kernel, by decide +kernel⟩, by decide +kernel⟩, gw_613 _, rfl, gw_7 _⟩,
  ⟨rfl, trivial⟩,
  ⟨rfl, trivial⟩,
  ⟨rfl, _, _, _, _, okc_6 cA _, (by decide : 5 < 8), gw_279 _, trivial, ⟨rfl, rfl⟩⟩,
  ⟨rfl, (by decide : Int32.ofInt 1 = 1)⟩,
  ⟨rfl, trivial⟩,
  ⟨rfl, _, _, _, _, okc_6 cA _, (by decide : 5 < 8), gw_279 _, Or.inl rfl, ⟨rfl, rfl⟩⟩,
  ⟨rfl, trivial⟩,
  ⟨rfl, _, _, _, _, okc_6 cA _, (by decide : 2 < 8), gw_276 _, trivial, ⟨rfl, Or.inl ⟨_, rfl⟩⟩⟩,
  ⟨rfl, 0, _, rfl, ⟨okg 14 _ gc_14, gw_46 _, gw_786 _, ⟨by decide +kernel, by decide +kernel, by decide +kernel⟩, by decide +kernel⟩, gw_787 _, rfl, gw_788 _⟩,
  ⟨rfl, (by decide : 3 < 5), (by decide : Int32.ofInt 1 = 1)⟩,
  ⟨rfl, (by decide : ((102 : Nat) : Int) + (-57) = ((45 : Nat) : Int))⟩,
  ⟨rfl, trivial⟩,
  ⟨rfl, _, _, _, _, okc_6 cA _, (by decide : 6 < 8), gw_280 _, trivial, ⟨rfl, rfl⟩⟩,
  ⟨rfl, trivial⟩,
  ⟨rfl, trivial⟩,
  ⟨rfl, Or.inr rfl⟩, trivial⟩⟩
-- PartitionKernel.peek
set_option maxRecDepth 100000 in
theorem dc_78 : ∀ en ∈ cd_78, decode prog_1_method_9_code en.1 = .ok (en.2.1, en.2.2.1 - en.1) := by decide +kernel
set_option maxRecDepth 100000 in
set_option maxHeartbeats 4000000 in
theorem ok_78 (cA : Nat → ClassId) : mq_okm pg_cl (pg_tys cA) (pg_E cA) pg_Z pg_sw pg_mx pg_X 78 cd_78 := ⟨by decide +kernel, by decide +kernel, mq_ok_of dc_78 ⟨⟨rfl, trivial⟩,
  ⟨rfl, trivial⟩,
  ⟨rfl, 1, _, rfl, ⟨okg 89 _ gc_89, gw_45 _, gw_303 _, ⟨by decide +kernel, by decide +kernel, by decide +kernel⟩, by decide +kernel⟩, gw_305 _, rfl, gw_0 _⟩,
  ⟨rfl, (by decide : 3 < 4)⟩,
  ⟨rfl, trivial⟩,
  ⟨rfl, (by decide : ((7 : Nat) : Int) + 7 = ((14 : Nat) : Int))⟩,
  ⟨rfl, (by decide : Int32.ofInt 0 = 0)⟩,
  ⟨rfl, (by decide : ((11 : Nat) : Int) + 11 = ((22 : Nat) : Int))⟩,
  ⟨rfl, trivial⟩,
  ⟨rfl, _, _, _, _, okc_4 cA _, (by decide : 1 < 9), gw_209 _, trivial, ⟨rfl, Or.inl ⟨_, rfl⟩⟩⟩,
  ⟨rfl, trivial⟩,
  ⟨rfl, 1, _, rfl, ⟨okg 17 _ gc_17, gw_49 _, gw_310 _, ⟨by decide +kernel, by decide +kernel, by decide +kernel⟩, by decide +kernel⟩, gw_311 _, rfl, gw_312 _⟩,
  ⟨rfl, Or.inr rfl⟩, trivial⟩⟩
-- PartitionKernel.register
set_option maxRecDepth 100000 in
theorem dc_79 : ∀ en ∈ cd_79, decode prog_1_method_10_code en.1 = .ok (en.2.1, en.2.2.1 - en.1) := by decide +kernel
set_option maxRecDepth 100000 in
set_option maxHeartbeats 4000000 in
theorem ok_79 (cA : Nat → ClassId) : mq_okm pg_cl (pg_tys cA) (pg_E cA) pg_Z pg_sw pg_mx pg_X 79 cd_79 := ⟨by decide +kernel, by decide +kernel, mq_ok_of dc_79 ⟨⟨rfl, trivial⟩,
  ⟨rfl, trivial⟩,
  ⟨rfl, trivial⟩,
  ⟨rfl, 2, _, rfl, ⟨okg 90 _ gc_90, gw_45 _, gw_321 _, ⟨by decide +kernel, by decide +kernel, by decide +kernel⟩, by decide +kernel⟩, gw_323 _, rfl, gw_1 _⟩,
  ⟨rfl, (by decide : 4 < 5)⟩,
  ⟨rfl, trivial⟩,
  ⟨rfl, (by decide : ((10 : Nat) : Int) + 7 = ((17 : Nat) : Int))⟩,
  ⟨rfl, (by decide : Int32.ofInt 0 = 0)⟩,
  ⟨rfl, (by decide : ((14 : Nat) : Int) + 9 = ((23 : Nat) : Int))⟩,
  ⟨rfl, trivial⟩,
  ⟨rfl, trivial⟩,
  ⟨rfl, 1, _, rfl, ⟨okg 43 _ gc_43, gw_50 _, gw_329 _, ⟨by decide +kernel, by decide +kernel, by decide +kernel⟩, by decide +kernel⟩, gw_330 _, rfl, gw_331 _⟩,
  ⟨rfl, Or.inr rfl⟩, trivial⟩⟩
-- PartitionKernel.state
set_option maxRecDepth 100000 in
theorem dc_80 : ∀ en ∈ cd_80, decode prog_1_method_11_code en.1 = .ok (en.2.1, en.2.2.1 - en.1) := by decide +kernel
set_option maxRecDepth 100000 in
set_option maxHeartbeats 4000000 in
theorem ok_80 (cA : Nat → ClassId) : mq_okm pg_cl (pg_tys cA) (pg_E cA) pg_Z pg_sw pg_mx pg_X 80 cd_80 := ⟨by decide +kernel, by decide +kernel, mq_ok_of dc_80 ⟨⟨rfl, trivial⟩,
  ⟨rfl, trivial⟩,
  ⟨rfl, trivial⟩,
  ⟨rfl, 2, _, rfl, ⟨okg 90 _ gc_90, gw_45 _, gw_321 _, ⟨by decide +kernel, by decide +kernel, by decide +kernel⟩, by decide +kernel⟩, gw_323 _, rfl, gw_1 _⟩,
  ⟨rfl, (by decide : 4 < 5)⟩,
  ⟨rfl, trivial⟩,
  ⟨rfl, (by decide : ((10 : Nat) : Int) + 7 = ((17 : Nat) : Int))⟩,
  ⟨rfl, (by decide : Int32.ofInt (-1) = (-1))⟩,
  ⟨rfl, (by decide : ((14 : Nat) : Int) + 9 = ((23 : Nat) : Int))⟩,
  ⟨rfl, trivial⟩,
  ⟨rfl, trivial⟩,
  ⟨rfl, 1, _, rfl, ⟨okg 49 _ gc_49, gw_50 _, gw_337 _, ⟨by decide +kernel, by decide +kernel, by decide +kernel⟩, by decide +kernel⟩, gw_338 _, rfl, gw_339 _⟩,
  ⟨rfl, Or.inr rfl⟩, trivial⟩⟩
-- PartitionKernel.partition
set_option maxRecDepth 100000 in
theorem dc_81 : ∀ en ∈ cd_81, decode prog_1_method_12_code en.1 = .ok (en.2.1, en.2.2.1 - en.1) := by decide +kernel
set_option maxRecDepth 100000 in
set_option maxHeartbeats 4000000 in
theorem ok_81 (cA : Nat → ClassId) : mq_okm pg_cl (pg_tys cA) (pg_E cA) pg_Z pg_sw pg_mx pg_X 81 cd_81 := ⟨by decide +kernel, by decide +kernel, mq_ok_of dc_81 ⟨⟨rfl, trivial⟩,
  ⟨rfl, trivial⟩,
  ⟨rfl, 1, _, rfl, ⟨okg 89 _ gc_89, gw_45 _, gw_303 _, ⟨by decide +kernel, by decide +kernel, by decide +kernel⟩, by decide +kernel⟩, gw_305 _, rfl, gw_0 _⟩,
  ⟨rfl, (by decide : 3 < 4)⟩,
  ⟨rfl, trivial⟩,
  ⟨rfl, (by decide : ((7 : Nat) : Int) + 7 = ((14 : Nat) : Int))⟩,
  ⟨rfl, (by decide : Int32.ofInt (-1) = (-1))⟩,
  ⟨rfl, (by decide : ((11 : Nat) : Int) + 8 = ((19 : Nat) : Int))⟩,
  ⟨rfl, trivial⟩,
  ⟨rfl, trivial⟩,
  ⟨rfl, 1, _, rfl, ⟨okg 26 _ gc_26, gw_48 _, gw_345 _, ⟨by decide +kernel, by decide +kernel, by decide +kernel⟩, by decide +kernel⟩, gw_346 _, rfl, gw_347 _⟩,
  ⟨rfl, Or.inr rfl⟩, trivial⟩⟩
-- PartitionKernel.traffic
set_option maxRecDepth 100000 in
theorem dc_82 : ∀ en ∈ cd_82, decode prog_1_method_13_code en.1 = .ok (en.2.1, en.2.2.1 - en.1) := by decide +kernel
set_option maxRecDepth 100000 in
set_option maxHeartbeats 4000000 in
theorem ok_82 (cA : Nat → ClassId) : mq_okm pg_cl (pg_tys cA) (pg_E cA) pg_Z pg_sw pg_mx pg_X 82 cd_82 := ⟨by decide +kernel, by decide +kernel, mq_ok_of dc_82 ⟨⟨rfl, trivial⟩,
  ⟨rfl, trivial⟩,
  ⟨rfl, 1, _, rfl, ⟨okg 91 _ gc_91, gw_45 _, gw_368 _, ⟨by decide +kernel, by decide +kernel, by decide +kernel⟩, by decide +kernel⟩, gw_370 _, rfl, gw_3 _⟩,
  ⟨rfl, (by decide : 3 < 4)⟩,
  ⟨rfl, trivial⟩,
  ⟨rfl, (by decide : ((7 : Nat) : Int) + 7 = ((14 : Nat) : Int))⟩,
  ⟨rfl, (by decide : Int32.ofInt (-1) = (-1))⟩,
  ⟨rfl, (by decide : ((11 : Nat) : Int) + 8 = ((19 : Nat) : Int))⟩,
  ⟨rfl, trivial⟩,
  ⟨rfl, trivial⟩,
  ⟨rfl, 1, _, rfl, ⟨okg 6 _ gc_6, gw_51 _, gw_372 _, ⟨by decide +kernel, by decide +kernel, by decide +kernel⟩, by decide +kernel⟩, gw_373 _, rfl, gw_374 _⟩,
  ⟨rfl, Or.inr rfl⟩, trivial⟩⟩
-- PartitionKernel.word
set_option maxRecDepth 100000 in
theorem dc_83 : ∀ en ∈ cd_83, decode prog_1_method_14_code en.1 = .ok (en.2.1, en.2.2.1 - en.1) := by decide +kernel
set_option maxRecDepth 100000 in
set_option maxHeartbeats 4000000 in
theorem ok_83 (cA : Nat → ClassId) : mq_okm pg_cl (pg_tys cA) (pg_E cA) pg_Z pg_sw pg_mx pg_X 83 cd_83 := ⟨by decide +kernel, by decide +kernel, mq_ok_of dc_83 ⟨⟨rfl, trivial⟩,
  ⟨rfl, trivial⟩,
  ⟨rfl, 1, _, rfl, ⟨okg 91 _ gc_91, gw_45 _, gw_368 _, ⟨by decide +kernel, by decide +kernel, by decide +kernel⟩, by decide +kernel⟩, gw_370 _, rfl, gw_3 _⟩,
  ⟨rfl, (by decide : 3 < 4)⟩,
  ⟨rfl, trivial⟩,
  ⟨rfl, (by decide : ((7 : Nat) : Int) + 7 = ((14 : Nat) : Int))⟩,
  ⟨rfl, (by decide : Int32.ofInt 0 = 0)⟩,
  ⟨rfl, (by decide : ((11 : Nat) : Int) + 8 = ((19 : Nat) : Int))⟩,
  ⟨rfl, trivial⟩,
  ⟨rfl, trivial⟩,
  ⟨rfl, 1, _, rfl, ⟨okg 5 _ gc_5, gw_51 _, gw_380 _, ⟨by decide +kernel, by decide +kernel, by decide +kernel⟩, by decide +kernel⟩, gw_381 _, rfl, gw_382 _⟩,
  ⟨rfl, Or.inr rfl⟩, trivial⟩⟩
-- PartitionKernel.error
set_option maxRecDepth 100000 in
theorem dc_84 : ∀ en ∈ cd_84, decode prog_1_method_15_code en.1 = .ok (en.2.1, en.2.2.1 - en.1) := by decide +kernel
set_option maxRecDepth 100000 in
set_option maxHeartbeats 4000000 in
theorem ok_84 (cA : Nat → ClassId) : mq_okm pg_cl (pg_tys cA) (pg_E cA) pg_Z pg_sw pg_mx pg_X 84 cd_84 := ⟨by decide +kernel, by decide +kernel, mq_ok_of dc_84 ⟨⟨rfl, trivial⟩,
  ⟨rfl, _, _, _, _, okc_6 cA _, (by decide : 3 < 8), gw_277 _, trivial, ⟨rfl, Or.inl ⟨_, rfl⟩⟩⟩,
  ⟨rfl, trivial⟩,
  ⟨rfl, trivial⟩,
  ⟨rfl, 2, _, rfl, ⟨okg 10 _ gc_10, gw_47 _, gw_392 _, ⟨by decide +kernel, by decide +kernel, by decide +kernel⟩, by decide +kernel⟩, gw_393 _, rfl, gw_394 _⟩,
  ⟨rfl, Or.inr rfl⟩, trivial⟩⟩
-- PartitionKernel.about
set_option maxRecDepth 100000 in
theorem dc_85 : ∀ en ∈ cd_85, decode prog_1_method_16_code en.1 = .ok (en.2.1, en.2.2.1 - en.1) := by decide +kernel
set_option maxRecDepth 100000 in
set_option maxHeartbeats 4000000 in
theorem ok_85 (cA : Nat → ClassId) : mq_okm pg_cl (pg_tys cA) (pg_E cA) pg_Z pg_sw pg_mx pg_X 85 cd_85 := ⟨by decide +kernel, by decide +kernel, mq_ok_of dc_85 ⟨⟨rfl, trivial⟩,
  ⟨by decide, by decide, by decide, by decide, by decide, by decide, by decide, by decide, by decide, by decide, trivial⟩,
  ⟨rfl, trivial⟩,
  ⟨rfl, _, _, _, _, okc_6 cA _, (by decide : 5 < 8), gw_279 _, trivial, ⟨rfl, rfl⟩⟩,
  ⟨rfl, Or.inr rfl⟩,
  ⟨rfl, trivial⟩,
  ⟨rfl, _, _, _, _, okc_6 cA _, (by decide : 3 < 8), gw_277 _, trivial, ⟨rfl, Or.inl ⟨_, rfl⟩⟩⟩,
  ⟨rfl, _, _, _, _, okc_1 cA _, (by decide : 4 < 7), gw_108 _, trivial, ⟨rfl, rfl⟩⟩,
  ⟨rfl, Or.inr rfl⟩,
  ⟨rfl, trivial⟩,
  ⟨rfl, _, _, _, _, okc_6 cA _, (by decide : 6 < 8), gw_280 _, trivial, ⟨rfl, rfl⟩⟩,
  ⟨rfl, Or.inr rfl⟩,
  ⟨rfl, trivial⟩,
  ⟨rfl, _, _, _, _, okc_6 cA _, (by decide : 7 < 8), gw_281 _, trivial, ⟨rfl, rfl⟩⟩,
  ⟨rfl, (by decide : ((54 : Nat) : Int) + 13 = ((67 : Nat) : Int))⟩,
  ⟨rfl, trivial⟩,
  ⟨rfl, _, _, _, _, okc_6 cA _, (by decide : 2 < 8), gw_276 _, trivial, ⟨rfl, Or.inl ⟨_, rfl⟩⟩⟩,
  ⟨rfl, 0, _, rfl, ⟨okg 13 _ gc_13, gw_46 _, gw_400 _, ⟨by decide +kernel, by decide +kernel, by decide +kernel⟩, by decide +kernel⟩, gw_401 _, rfl, gw_402 _⟩,
  ⟨rfl, (by decide : ((64 : Nat) : Int) + 4 = ((68 : Nat) : Int))⟩,
  ⟨rfl, (by decide : Int32.ofInt (-1) = (-1))⟩,
  ⟨rfl, Or.inr rfl⟩,
  ⟨rfl, (by decide : Int32.ofInt (-1) = (-1))⟩,
  ⟨rfl, Or.inr rfl⟩, trivial⟩⟩
-- PartitionKernel.isPartition
set_option maxRecDepth 100000 in
theorem dc_86 : ∀ en ∈ cd_86, decode prog_1_method_17_code en.1 = .ok (en.2.1, en.2.2.1 - en.1) := by decide +kernel
set_option maxRecDepth 100000 in
set_option maxHeartbeats 4000000 in
theorem ok_86 (cA : Nat → ClassId) : mq_okm pg_cl (pg_tys cA) (pg_E cA) pg_Z pg_sw pg_mx pg_X 86 cd_86 := ⟨by decide +kernel, by decide +kernel, mq_ok_of dc_86 ⟨⟨rfl, trivial⟩,
  ⟨rfl, (by decide : ((1 : Nat) : Int) + 12 = ((13 : Nat) : Int))⟩,
  ⟨rfl, trivial⟩,
  ⟨rfl, (by decide : Int32.ofInt 4 = 4)⟩,
  ⟨rfl, (by decide : ((6 : Nat) : Int) + 7 = ((13 : Nat) : Int))⟩,
  ⟨rfl, (by decide : Int32.ofInt 1 = 1)⟩,
  ⟨rfl, (by decide : ((10 : Nat) : Int) + 4 = ((14 : Nat) : Int))⟩,
  ⟨rfl, (by decide : Int32.ofInt 0 = 0)⟩,
  ⟨rfl, Or.inl ⟨rfl, rfl⟩⟩, trivial⟩⟩
-- PartitionKernel.isPriority
set_option maxRecDepth 100000 in
theorem dc_87 : ∀ en ∈ cd_87, decode prog_1_method_18_code en.1 = .ok (en.2.1, en.2.2.1 - en.1) := by decide +kernel
set_option maxRecDepth 100000 in
set_option maxHeartbeats 4000000 in
theorem ok_87 (cA : Nat → ClassId) : mq_okm pg_cl (pg_tys cA) (pg_E cA) pg_Z pg_sw pg_mx pg_X 87 cd_87 := ⟨by decide +kernel, by decide +kernel, mq_ok_of dc_87 ⟨⟨rfl, trivial⟩,
  ⟨rfl, (by decide : ((1 : Nat) : Int) + 13 = ((14 : Nat) : Int))⟩,
  ⟨rfl, trivial⟩,
  ⟨rfl, (by decide : (Int8.ofInt 15).toInt32 = 15)⟩,
  ⟨rfl, (by decide : ((7 : Nat) : Int) + 7 = ((14 : Nat) : Int))⟩,
  ⟨rfl, (by decide : Int32.ofInt 1 = 1)⟩,
  ⟨rfl, (by decide : ((11 : Nat) : Int) + 4 = ((15 : Nat) : Int))⟩,
  ⟨rfl, (by decide : Int32.ofInt 0 = 0)⟩,
  ⟨rfl, Or.inl ⟨rfl, rfl⟩⟩, trivial⟩⟩
-- PartitionKernel.isSpan
set_option maxRecDepth 100000 in
theorem dc_88 : ∀ en ∈ cd_88, decode prog_1_method_19_code en.1 = .ok (en.2.1, en.2.2.1 - en.1) := by decide +kernel
set_option maxRecDepth 100000 in
set_option maxHeartbeats 4000000 in
theorem ok_88 (cA : Nat → ClassId) : mq_okm pg_cl (pg_tys cA) (pg_E cA) pg_Z pg_sw pg_mx pg_X 88 cd_88 := ⟨by decide +kernel, by decide +kernel, mq_ok_of dc_88 ⟨⟨rfl, trivial⟩,
  ⟨rfl, (by decide : ((1 : Nat) : Int) + 13 = ((14 : Nat) : Int))⟩,
  ⟨rfl, trivial⟩,
  ⟨rfl, gw_531 _⟩,
  ⟨rfl, (by decide : ((7 : Nat) : Int) + 7 = ((14 : Nat) : Int))⟩,
  ⟨rfl, (by decide : Int32.ofInt 1 = 1)⟩,
  ⟨rfl, (by decide : ((11 : Nat) : Int) + 4 = ((15 : Nat) : Int))⟩,
  ⟨rfl, (by decide : Int32.ofInt 0 = 0)⟩,
  ⟨rfl, Or.inl ⟨rfl, rfl⟩⟩, trivial⟩⟩
-- PartitionKernel.partitionAt
set_option maxRecDepth 100000 in
theorem dc_89 : ∀ en ∈ cd_89, decode prog_1_method_20_code en.1 = .ok (en.2.1, en.2.2.1 - en.1) := by decide +kernel
set_option maxRecDepth 100000 in
set_option maxHeartbeats 4000000 in
theorem ok_89 (cA : Nat → ClassId) : mq_okm pg_cl (pg_tys cA) (pg_E cA) pg_Z pg_sw pg_mx pg_X 89 cd_89 := ⟨by decide +kernel, by decide +kernel, mq_ok_of dc_89 ⟨⟨rfl, trivial⟩,
  ⟨rfl, ⟨okg 86 _ gc_86, gw_45 _, Or.inl (gw_307 _), ⟨by decide +kernel, by decide +kernel, by decide +kernel⟩, by decide +kernel⟩, gw_308 _⟩,
  ⟨rfl, (by decide : ((4 : Nat) : Int) + 12 = ((16 : Nat) : Int))⟩,
  ⟨rfl, trivial⟩,
  ⟨rfl, _, _, _, _, okc_6 cA _, (by decide : 0 < 8), gw_274 _, trivial, ⟨rfl, Or.inr ⟨_, rfl⟩⟩⟩,
  ⟨rfl, trivial⟩,
  ⟨rfl, trivial⟩,
  ⟨rfl, (by decide : ((13 : Nat) : Int) + 4 = ((17 : Nat) : Int))⟩,
  ⟨rfl, trivial⟩,
  ⟨rfl, _, rfl, Or.inl ⟨_, rfl⟩⟩, trivial⟩⟩
-- PartitionKernel.processAt
set_option maxRecDepth 100000 in
theorem dc_90 : ∀ en ∈ cd_90, decode prog_1_method_21_code en.1 = .ok (en.2.1, en.2.2.1 - en.1) := by decide +kernel
set_option maxRecDepth 100000 in
set_option maxHeartbeats 4000000 in
theorem ok_90 (cA : Nat → ClassId) : mq_okm pg_cl (pg_tys cA) (pg_E cA) pg_Z pg_sw pg_mx pg_X 90 cd_90 := ⟨by decide +kernel, by decide +kernel, mq_ok_of dc_90 ⟨⟨rfl, trivial⟩,
  ⟨rfl, trivial⟩,
  ⟨rfl, 1, _, rfl, ⟨okg 89 _ gc_89, gw_45 _, gw_303 _, ⟨by decide +kernel, by decide +kernel, by decide +kernel⟩, by decide +kernel⟩, gw_305 _, rfl, gw_0 _⟩,
  ⟨rfl, (by decide : 3 < 4)⟩,
  ⟨rfl, trivial⟩,
  ⟨rfl, (by decide : ((7 : Nat) : Int) + 7 = ((14 : Nat) : Int))⟩,
  ⟨rfl, trivial⟩,
  ⟨rfl, (by decide : ((11 : Nat) : Int) + 8 = ((19 : Nat) : Int))⟩,
  ⟨rfl, trivial⟩,
  ⟨rfl, trivial⟩,
  ⟨rfl, 1, _, rfl, ⟨okg 24 _ gc_24, gw_48 _, gw_325 _, ⟨by decide +kernel, by decide +kernel, by decide +kernel⟩, by decide +kernel⟩, gw_326 _, rfl, gw_327 _⟩,
  ⟨rfl, _, rfl, Or.inl ⟨_, rfl⟩⟩, trivial⟩⟩
-- PartitionKernel.channelAt
set_option maxRecDepth 100000 in
theorem dc_91 : ∀ en ∈ cd_91, decode prog_1_method_22_code en.1 = .ok (en.2.1, en.2.2.1 - en.1) := by decide +kernel
set_option maxRecDepth 100000 in
set_option maxHeartbeats 4000000 in
theorem ok_91 (cA : Nat → ClassId) : mq_okm pg_cl (pg_tys cA) (pg_E cA) pg_Z pg_sw pg_mx pg_X 91 cd_91 := ⟨by decide +kernel, by decide +kernel, mq_ok_of dc_91 ⟨⟨rfl, trivial⟩,
  ⟨rfl, (by decide : ((1 : Nat) : Int) + 20 = ((21 : Nat) : Int))⟩,
  ⟨rfl, trivial⟩,
  ⟨rfl, trivial⟩,
  ⟨rfl, _, _, _, _, okc_6 cA _, (by decide : 4 < 8), gw_278 _, trivial, ⟨rfl, rfl⟩⟩,
  ⟨rfl, (by decide : ((9 : Nat) : Int) + 12 = ((21 : Nat) : Int))⟩,
  ⟨rfl, trivial⟩,
  ⟨rfl, _, _, _, _, okc_6 cA _, (by decide : 1 < 8), gw_275 _, trivial, ⟨rfl, Or.inr ⟨_, rfl⟩⟩⟩,
  ⟨rfl, trivial⟩,
  ⟨rfl, trivial⟩,
  ⟨rfl, (by decide : ((18 : Nat) : Int) + 4 = ((22 : Nat) : Int))⟩,
  ⟨rfl, trivial⟩,
  ⟨rfl, _, rfl, Or.inl ⟨_, rfl⟩⟩, trivial⟩⟩
-- PartitionKernel.tick
set_option maxRecDepth 100000 in
theorem dc_92 : ∀ en ∈ cd_92, decode prog_1_method_23_code en.1 = .ok (en.2.1, en.2.2.1 - en.1) := by decide +kernel
set_option maxRecDepth 100000 in
set_option maxHeartbeats 4000000 in
theorem ok_92 (cA : Nat → ClassId) : mq_okm pg_cl (pg_tys cA) (pg_E cA) pg_Z pg_sw pg_mx pg_X 92 cd_92 := ⟨by decide +kernel, by decide +kernel, mq_ok_of dc_92 ⟨⟨rfl, trivial⟩,
  ⟨rfl, trivial⟩,
  ⟨rfl, _, _, _, _, okc_6 cA _, (by decide : 5 < 8), gw_279 _, trivial, ⟨rfl, rfl⟩⟩,
  ⟨rfl, 1, _, rfl, ⟨okg 30 _ gc_30, gw_48 _, gw_615 _, ⟨by decide +kernel, by decide +kernel, by decide +kernel⟩, by decide +kernel⟩, gw_616 _, rfl, gw_617 _⟩,
  ⟨rfl, trivial⟩,
  ⟨rfl, trivial⟩,
  ⟨rfl, 1, _, rfl, ⟨okg 93 _ gc_93, gw_45 _, gw_623 _, ⟨by decide +kernel, by decide +kernel, by decide +kernel⟩, by decide +kernel⟩, gw_625 _, rfl, gw_9 _⟩,
  ⟨rfl, (by decide : ((13 : Nat) : Int) + 4 = ((17 : Nat) : Int))⟩,
  ⟨rfl, rfl⟩,
  ⟨rfl, trivial⟩,
  ⟨rfl, (by decide : Int32.ofInt 1 = 1)⟩,
  ⟨rfl, (by decide : Int32.ofInt (-1) = (-1))⟩,
  ⟨rfl, 2, _, rfl, ⟨okg 31 _ gc_31, gw_48 _, gw_651 _, ⟨by decide +kernel, by decide +kernel, by decide +kernel⟩, by decide +kernel⟩, gw_354 _, rfl, gw_355 _⟩,
  ⟨rfl, (by decide : 2 < 4)⟩,
  ⟨rfl, trivial⟩,
  ⟨rfl, (by decide : ((25 : Nat) : Int) + 4 = ((29 : Nat) : Int))⟩,
  ⟨rfl, rfl⟩,
  ⟨rfl, trivial⟩,
  ⟨rfl, trivial⟩,
  ⟨rfl, _, _, _, _, okc_5 cA _, (by decide : 13 < 14), gw_176 _, trivial, ⟨rfl, rfl⟩⟩,
  ⟨rfl, (by decide : Int32.ofInt 1 = 1)⟩,
  ⟨rfl, trivial⟩,
  ⟨rfl, _, _, _, _, okc_5 cA _, (by decide : 13 < 14), gw_176 _, Or.inl rfl, ⟨rfl, rfl⟩⟩,
  ⟨rfl, trivial⟩,
  ⟨rfl, trivial⟩,
  ⟨rfl, _, _, _, _, okc_6 cA _, (by decide : 6 < 8), gw_280 _, trivial, ⟨rfl, rfl⟩⟩,
  ⟨rfl, (by decide : Int32.ofInt 1 = 1)⟩,
  ⟨rfl, trivial⟩,
  ⟨rfl, _, _, _, _, okc_6 cA _, (by decide : 6 < 8), gw_280 _, Or.inl rfl, ⟨rfl, rfl⟩⟩,
  ⟨rfl, trivial⟩,
  ⟨rfl, trivial⟩,
  ⟨rfl, _, _, _, _, okc_4 cA _, (by decide : 1 < 9), gw_209 _, trivial, ⟨rfl, Or.inl ⟨_, rfl⟩⟩⟩,
  ⟨rfl, ⟨okg 50 _ gc_50, gw_60 _, Or.inl (gw_652 _), ⟨by decide +kernel, by decide +kernel, by decide +kernel⟩, by decide +kernel⟩, gw_653 _⟩,
  ⟨rfl, (by decide : 3 < 4)⟩,
  ⟨rfl, trivial⟩,
  ⟨rfl, (by decide : (Int8.ofInt (-2)).toInt32 = (-2))⟩,
  ⟨rfl, (by decide : ((61 : Nat) : Int) + 10 = ((71 : Nat) : Int))⟩,
  ⟨rfl, trivial⟩,
  ⟨rfl, trivial⟩,
  ⟨rfl, trivial⟩,
  ⟨rfl, 2, _, rfl, ⟨okg 95 _ gc_95, gw_45 _, gw_734 _, ⟨by decide +kernel, by decide +kernel, by decide +kernel⟩, by decide +kernel⟩, gw_736 _, rfl, gw_11 _⟩,
  ⟨rfl, (by decide : 3 < 4)⟩,
  ⟨rfl, trivial⟩,
  ⟨rfl, (by decide : Int32.ofInt (-1) = (-1))⟩,
  ⟨rfl, (by decide : ((73 : Nat) : Int) + 11 = ((84 : Nat) : Int))⟩,
  ⟨rfl, trivial⟩,
  ⟨rfl, trivial⟩,
  ⟨rfl, trivial⟩,
  ⟨rfl, trivial⟩,
  ⟨rfl, 3, _, rfl, ⟨okg 94 _ gc_94, gw_45 _, gw_631 _, ⟨by decide +kernel, by decide +kernel, by decide +kernel⟩, by decide +kernel⟩, gw_633 _, rfl, gw_10 _⟩,
  ⟨rfl, trivial⟩,
  ⟨rfl, rfl⟩, trivial⟩⟩
-- PartitionKernel.dueErrorsEndTick
set_option maxRecDepth 100000 in
theorem dc_93 : ∀ en ∈ cd_93, decode prog_1_method_24_code en.1 = .ok (en.2.1, en.2.2.1 - en.1) := by decide +kernel
set_option maxRecDepth 100000 in
set_option maxHeartbeats 4000000 in
theorem ok_93 (cA : Nat → ClassId) : mq_okm pg_cl (pg_tys cA) (pg_E cA) pg_Z pg_sw pg_mx pg_X 93 cd_93 := ⟨by decide +kernel, by decide +kernel, mq_ok_of dc_93 ⟨⟨rfl, (by decide : Int32.ofInt 0 = 0)⟩,
  ⟨rfl, (by decide : 2 < 4)⟩,
  ⟨rfl, trivial⟩,
  ⟨rfl, trivial⟩,
  ⟨rfl, _, _, _, _, okc_4 cA _, (by decide : 5 < 9), gw_216 _, trivial, ⟨rfl, rfl⟩⟩,
  ⟨rfl, (by decide : ((7 : Nat) : Int) + 44 = ((51 : Nat) : Int))⟩,
  ⟨rfl, trivial⟩,
  ⟨rfl, _, _, _, _, okc_4 cA _, (by decide : 2 < 9), gw_211 _, trivial, ⟨rfl, Or.inr ⟨_, rfl⟩⟩⟩,
  ⟨rfl, trivial⟩,
  ⟨rfl, trivial⟩,
  ⟨rfl, (by decide : 3 < 4)⟩,
  ⟨rfl, trivial⟩,
  ⟨rfl, trivial⟩,
  ⟨rfl, _, _, _, _, okc_6 cA _, (by decide : 5 < 8), gw_279 _, trivial, ⟨rfl, rfl⟩⟩,
  ⟨rfl, 1, _, rfl, ⟨okg 47 _ gc_47, gw_50 _, gw_627 _, ⟨by decide +kernel, by decide +kernel, by decide +kernel⟩, by decide +kernel⟩, gw_628 _, rfl, gw_629 _⟩,
  ⟨rfl, (by decide : ((25 : Nat) : Int) + 20 = ((45 : Nat) : Int))⟩,
  ⟨rfl, trivial⟩,
  ⟨rfl, (by decide : Int32.ofInt (-1) = (-1))⟩,
  ⟨rfl, _, _, _, _, okc_5 cA _, (by decide : 8 < 14), gw_166 _, Or.inl rfl, ⟨rfl, rfl⟩⟩,
  ⟨rfl, trivial⟩,
  ⟨rfl, trivial⟩,
  ⟨rfl, trivial⟩,
  ⟨rfl, (by decide : Int32.ofInt 2 = 2)⟩,
  ⟨rfl, 3, _, rfl, ⟨okg 94 _ gc_94, gw_45 _, gw_631 _, ⟨by decide +kernel, by decide +kernel, by decide +kernel⟩, by decide +kernel⟩, gw_633 _, rfl, gw_10 _⟩,
  ⟨rfl, (by decide : ((40 : Nat) : Int) + 5 = ((45 : Nat) : Int))⟩,
  ⟨rfl, (by decide : Int32.ofInt 1 = 1)⟩,
  ⟨rfl, Or.inl ⟨rfl, rfl⟩⟩,
  ⟨rfl, (by decide : 2 < 4), (by decide : Int32.ofInt 1 = 1)⟩,
  ⟨rfl, (by decide : ((48 : Nat) : Int) + (-46) = ((2 : Nat) : Int))⟩,
  ⟨rfl, (by decide : Int32.ofInt 0 = 0)⟩,
  ⟨rfl, Or.inl ⟨rfl, rfl⟩⟩, trivial⟩⟩
end
section
/-! Rows of methods, by program. -/
-- PartitionKernel.fails
set_option maxRecDepth 100000 in
theorem dc_94 : ∀ en ∈ cd_94, decode prog_1_method_25_code en.1 = .ok (en.2.1, en.2.2.1 - en.1) := by decide +kernel
set_option maxRecDepth 100000 in
set_option maxHeartbeats 4000000 in
theorem ok_94 (cA : Nat → ClassId) : mq_okm pg_cl (pg_tys cA) (pg_E cA) pg_Z pg_sw pg_mx pg_X 94 cd_94 := ⟨by decide +kernel, by decide +kernel, mq_ok_of dc_94 ⟨⟨rfl, trivial⟩,
  ⟨rfl, _, _, _, _, okc_6 cA _, (by decide : 3 < 8), gw_277 _, trivial, ⟨rfl, Or.inl ⟨_, rfl⟩⟩⟩,
  ⟨rfl, trivial⟩,
  ⟨rfl, _, _, _, _, okc_6 cA _, (by decide : 5 < 8), gw_279 _, trivial, ⟨rfl, rfl⟩⟩,
  ⟨rfl, trivial⟩,
  ⟨rfl, _, _, _, _, okc_4 cA _, (by decide : 0 < 9), gw_207 _, trivial, ⟨rfl, rfl⟩⟩,
  ⟨rfl, trivial⟩,
  ⟨rfl, _, _, _, _, okc_5 cA _, (by decide : 0 < 14), gw_150 _, trivial, ⟨rfl, rfl⟩⟩,
  ⟨rfl, trivial⟩,
  ⟨rfl, 4, _, rfl, ⟨okg 9 _ gc_9, gw_47 _, gw_635 _, ⟨by decide +kernel, by decide +kernel, by decide +kernel⟩, by decide +kernel⟩, gw_636 _, rfl, gw_637 _⟩,
  ⟨rfl, trivial⟩,
  ⟨rfl, trivial⟩,
  ⟨rfl, 1, _, rfl, ⟨okg 25 _ gc_25, gw_48 _, gw_642 _, ⟨by decide +kernel, by decide +kernel, by decide +kernel⟩, by decide +kernel⟩, gw_643 _, rfl, gw_644 _⟩,
  ⟨by decide, by decide, by decide, by decide, by decide, by decide, by decide, by decide, by decide, by decide, trivial⟩,
  ⟨rfl, trivial⟩,
  ⟨rfl, trivial⟩,
  ⟨rfl, 1, _, rfl, ⟨okg 29 _ gc_29, gw_48 _, gw_646 _, ⟨by decide +kernel, by decide +kernel, by decide +kernel⟩, by decide +kernel⟩, gw_647 _, rfl, gw_648 _⟩,
  ⟨rfl, (by decide : Int32.ofInt 0 = 0)⟩,
  ⟨rfl, Or.inl ⟨rfl, rfl⟩⟩,
  ⟨rfl, trivial⟩,
  ⟨rfl, trivial⟩,
  ⟨rfl, trivial⟩,
  ⟨rfl, _, _, _, _, okc_6 cA _, (by decide : 5 < 8), gw_279 _, trivial, ⟨rfl, rfl⟩⟩,
  ⟨rfl, 2, _, rfl, ⟨okg 27 _ gc_27, gw_48 _, gw_650 _, ⟨by decide +kernel, by decide +kernel, by decide +kernel⟩, by decide +kernel⟩, gw_587 _, rfl, gw_588 _⟩,
  ⟨rfl, (by decide : Int32.ofInt 0 = 0)⟩,
  ⟨rfl, Or.inl ⟨rfl, rfl⟩⟩,
  ⟨rfl, trivial⟩,
  ⟨rfl, trivial⟩,
  ⟨rfl, _, _, _, _, okc_6 cA _, (by decide : 5 < 8), gw_279 _, trivial, ⟨rfl, rfl⟩⟩,
  ⟨rfl, 1, _, rfl, ⟨okg 28 _ gc_28, gw_48 _, gw_582 _, ⟨by decide +kernel, by decide +kernel, by decide +kernel⟩, by decide +kernel⟩, gw_583 _, rfl, gw_584 _⟩,
  ⟨rfl, trivial⟩,
  ⟨rfl, trivial⟩,
  ⟨rfl, _, _, _, _, okc_4 cA _, (by decide : 7 < 9), gw_219 _, trivial, ⟨rfl, rfl⟩⟩,
  ⟨rfl, (by decide : Int32.ofInt 1 = 1)⟩,
  ⟨rfl, trivial⟩,
  ⟨rfl, _, _, _, _, okc_4 cA _, (by decide : 7 < 9), gw_219 _, Or.inl rfl, ⟨rfl, rfl⟩⟩,
  ⟨rfl, (by decide : Int32.ofInt 1 = 1)⟩,
  ⟨rfl, Or.inl ⟨rfl, rfl⟩⟩,
  ⟨rfl, trivial⟩,
  ⟨rfl, (by decide : Int32.ofInt 1 = 1)⟩,
  ⟨rfl, _, _, _, _, okc_4 cA _, (by decide : 8 < 9), gw_221 _, Or.inl rfl, ⟨rfl, rfl⟩⟩,
  ⟨rfl, (by decide : Int32.ofInt 1 = 1)⟩,
  ⟨rfl, Or.inl ⟨rfl, rfl⟩⟩,
  ⟨rfl, trivial⟩,
  ⟨rfl, (by decide : Int32.ofInt 2 = 2)⟩,
  ⟨rfl, (by decide : ((103 : Nat) : Int) + 13 = ((116 : Nat) : Int))⟩,
  ⟨rfl, trivial⟩,
  ⟨rfl, trivial⟩,
  ⟨rfl, _, _, _, _, okc_5 cA _, (by decide : 6 < 14), gw_161 _, trivial, ⟨rfl, rfl⟩⟩,
  ⟨rfl, (by decide : Int32.ofInt 4 = 4)⟩,
  ⟨rfl, trivial⟩,
  ⟨rfl, _, _, _, _, okc_5 cA _, (by decide : 6 < 14), gw_161 _, Or.inl rfl, ⟨rfl, rfl⟩⟩,
  ⟨rfl, (by decide : Int32.ofInt 0 = 0)⟩,
  ⟨rfl, Or.inl ⟨rfl, rfl⟩⟩, trivial⟩⟩
-- PartitionKernel.serve
set_option maxRecDepth 100000 in
theorem dc_95 : ∀ en ∈ cd_95, decode prog_1_method_26_code en.1 = .ok (en.2.1, en.2.2.1 - en.1) := by decide +kernel
set_option maxRecDepth 100000 in
set_option maxHeartbeats 4000000 in
theorem ok_95 (cA : Nat → ClassId) : mq_okm pg_cl (pg_tys cA) (pg_E cA) pg_Z pg_sw pg_mx pg_X 95 cd_95 := ⟨by decide +kernel, by decide +kernel, mq_ok_of dc_95 ⟨⟨rfl, trivial⟩,
  ⟨rfl, (by decide : (Int8.ofInt 17).toInt32 = 17)⟩,
  ⟨rfl, 1, _, rfl, ⟨okg 43 _ gc_43, gw_50 _, gw_329 _, ⟨by decide +kernel, by decide +kernel, by decide +kernel⟩, by decide +kernel⟩, gw_330 _, rfl, gw_331 _⟩,
  ⟨rfl, (by decide : 3 < 4)⟩,
  ⟨rfl, trivial⟩,
  ⟨rfl, (by decide : (Int8.ofInt 10).toInt32 = 10)⟩,
  ⟨rfl, (by decide : ((10 : Nat) : Int) + 5 = ((15 : Nat) : Int))⟩,
  ⟨rfl, (by decide : Int32.ofInt 3 = 3)⟩,
  ⟨rfl, Or.inr rfl⟩,
  ⟨rfl, trivial⟩,
  ⟨rfl, (by decide : ((16 : Nat) : Int) + 9 = ((25 : Nat) : Int))⟩,
  ⟨rfl, trivial⟩,
  ⟨rfl, (by decide : (Int8.ofInt 10).toInt32 = 10)⟩,
  ⟨rfl, (by decide : ((22 : Nat) : Int) + 5 = ((27 : Nat) : Int))⟩,
  ⟨rfl, (by decide : Int32.ofInt 0 = 0)⟩,
  ⟨rfl, Or.inr rfl⟩,
  ⟨rfl, trivial⟩,
  ⟨rfl, trivial⟩,
  ⟨rfl, _, _, _, _, okc_5 cA _, (by decide : 6 < 14), gw_161 _, trivial, ⟨rfl, rfl⟩⟩,
  ⟨rfl, (by decide : Int32.ofInt 4 = 4)⟩,
  ⟨rfl, trivial⟩,
  ⟨rfl, _, _, _, _, okc_5 cA _, (by decide : 6 < 14), gw_161 _, Or.inl rfl, ⟨rfl, rfl⟩⟩,
  ⟨rfl, trivial⟩,
  ⟨rfl, (by decide : ((38 : Nat) : Int) + 11 = ((49 : Nat) : Int))⟩,
  ⟨rfl, trivial⟩,
  ⟨rfl, trivial⟩,
  ⟨rfl, 1, _, rfl, ⟨okg 29 _ gc_29, gw_48 _, gw_646 _, ⟨by decide +kernel, by decide +kernel, by decide +kernel⟩, by decide +kernel⟩, gw_647 _, rfl, gw_648 _⟩,
  ⟨rfl, (by decide : ((46 : Nat) : Int) + 16 = ((62 : Nat) : Int))⟩,
  ⟨rfl, trivial⟩,
  ⟨rfl, (by decide : (Int8.ofInt 10).toInt32 = 10)⟩,
  ⟨rfl, trivial⟩,
  ⟨rfl, trivial⟩,
  ⟨rfl, trivial⟩,
  ⟨rfl, trivial⟩,
  ⟨rfl, 3, _, rfl, ⟨okg 96 _ gc_96, gw_45 _, gw_738 _, ⟨by decide +kernel, by decide +kernel, by decide +kernel⟩, by decide +kernel⟩, gw_740 _, rfl, gw_12 _⟩,
  ⟨rfl, 2, _, rfl, ⟨okg 44 _ gc_44, gw_50 _, gw_781 _, ⟨by decide +kernel, by decide +kernel, by decide +kernel⟩, by decide +kernel⟩, gw_664 _, rfl, gw_665 _⟩,
  ⟨rfl, (by decide : Int32.ofInt (-1) = (-1))⟩,
  ⟨rfl, Or.inr rfl⟩, trivial⟩⟩
-- PartitionKernel.answer
set_option maxRecDepth 100000 in
theorem dc_96 : ∀ en ∈ cd_96, decode prog_1_method_27_code en.1 = .ok (en.2.1, en.2.2.1 - en.1) := by decide +kernel
set_option maxRecDepth 100000 in
set_option maxHeartbeats 4000000 in
theorem ok_96 (cA : Nat → ClassId) : mq_okm pg_cl (pg_tys cA) (pg_E cA) pg_Z pg_sw pg_mx pg_X 96 cd_96 := ⟨by decide +kernel, by decide +kernel, mq_ok_of dc_96 ⟨⟨rfl, trivial⟩,
  ⟨rfl, (by decide : (Int8.ofInt 10).toInt32 = 10)⟩,
  ⟨rfl, 1, _, rfl, ⟨okg 43 _ gc_43, gw_50 _, gw_329 _, ⟨by decide +kernel, by decide +kernel, by decide +kernel⟩, by decide +kernel⟩, gw_330 _, rfl, gw_331 _⟩,
  ⟨rfl, (by decide : 4 < 6)⟩,
  ⟨rfl, trivial⟩,
  ⟨rfl, (by decide : (Int8.ofInt 11).toInt32 = 11)⟩,
  ⟨rfl, 1, _, rfl, ⟨okg 43 _ gc_43, gw_50 _, gw_329 _, ⟨by decide +kernel, by decide +kernel, by decide +kernel⟩, by decide +kernel⟩, gw_330 _, rfl, gw_331 _⟩,
  ⟨rfl, (by decide : 5 < 6)⟩,
  ⟨rfl, trivial⟩,
  ⟨by decide, by decide, by decide, by decide, by decide, by decide, by decide, by decide, by decide, by decide, by decide, by decide, by decide, by decide, by decide, by decide, by decide, by decide, trivial⟩,
  ⟨rfl, trivial⟩,
  ⟨rfl, trivial⟩,
  ⟨rfl, 1, _, rfl, ⟨okg 32 _ gc_32, gw_48 _, gw_742 _, ⟨by decide +kernel, by decide +kernel, by decide +kernel⟩, by decide +kernel⟩, gw_743 _, rfl, gw_744 _⟩,
  ⟨rfl, Or.inr rfl⟩,
  ⟨rfl, trivial⟩,
  ⟨rfl, trivial⟩,
  ⟨rfl, trivial⟩,
  ⟨rfl, trivial⟩,
  ⟨rfl, _, _, _, _, okc_6 cA _, (by decide : 5 < 8), gw_279 _, trivial, ⟨rfl, rfl⟩⟩,
  ⟨rfl, 3, _, rfl, ⟨okg 33 _ gc_33, gw_48 _, gw_746 _, ⟨by decide +kernel, by decide +kernel, by decide +kernel⟩, by decide +kernel⟩, gw_747 _, rfl, gw_748 _⟩,
  ⟨rfl, Or.inr rfl⟩,
  ⟨rfl, trivial⟩,
  ⟨rfl, trivial⟩,
  ⟨rfl, trivial⟩,
  ⟨rfl, _, _, _, _, okc_6 cA _, (by decide : 5 < 8), gw_279 _, trivial, ⟨rfl, rfl⟩⟩,
  ⟨rfl, 2, _, rfl, ⟨okg 34 _ gc_34, gw_48 _, gw_751 _, ⟨by decide +kernel, by decide +kernel, by decide +kernel⟩, by decide +kernel⟩, gw_752 _, rfl, gw_753 _⟩,
  ⟨rfl, Or.inr rfl⟩,
  ⟨rfl, trivial⟩,
  ⟨rfl, trivial⟩,
  ⟨rfl, trivial⟩,
  ⟨rfl, 2, _, rfl, ⟨okg 35 _ gc_35, gw_48 _, gw_756 _, ⟨by decide +kernel, by decide +kernel, by decide +kernel⟩, by decide +kernel⟩, gw_757 _, rfl, gw_758 _⟩,
  ⟨rfl, Or.inr rfl⟩,
  ⟨rfl, trivial⟩,
  ⟨rfl, _, _, _, _, okc_6 cA _, (by decide : 5 < 8), gw_279 _, trivial, ⟨rfl, rfl⟩⟩,
  ⟨rfl, Or.inr rfl⟩,
  ⟨rfl, trivial⟩,
  ⟨rfl, trivial⟩,
  ⟨rfl, trivial⟩,
  ⟨rfl, 2, _, rfl, ⟨okg 36 _ gc_36, gw_48 _, gw_761 _, ⟨by decide +kernel, by decide +kernel, by decide +kernel⟩, by decide +kernel⟩, gw_762 _, rfl, gw_763 _⟩,
  ⟨rfl, Or.inr rfl⟩,
  ⟨rfl, trivial⟩,
  ⟨rfl, trivial⟩,
  ⟨rfl, 1, _, rfl, ⟨okg 37 _ gc_37, gw_48 _, gw_765 _, ⟨by decide +kernel, by decide +kernel, by decide +kernel⟩, by decide +kernel⟩, gw_766 _, rfl, gw_767 _⟩,
  ⟨rfl, Or.inr rfl⟩,
  ⟨rfl, trivial⟩,
  ⟨rfl, trivial⟩,
  ⟨rfl, trivial⟩,
  ⟨rfl, trivial⟩,
  ⟨rfl, 3, _, rfl, ⟨okg 97 _ gc_97, gw_45 _, gw_769 _, ⟨by decide +kernel, by decide +kernel, by decide +kernel⟩, by decide +kernel⟩, gw_771 _, rfl, gw_13 _⟩,
  ⟨rfl, Or.inr rfl⟩,
  ⟨rfl, trivial⟩,
  ⟨rfl, trivial⟩,
  ⟨rfl, trivial⟩,
  ⟨rfl, trivial⟩,
  ⟨rfl, 3, _, rfl, ⟨okg 98 _ gc_98, gw_45 _, gw_777 _, ⟨by decide +kernel, by decide +kernel, by decide +kernel⟩, by decide +kernel⟩, gw_779 _, rfl, gw_14 _⟩,
  ⟨rfl, Or.inr rfl⟩, trivial⟩⟩
-- PartitionKernel.send
set_option maxRecDepth 100000 in
theorem dc_97 : ∀ en ∈ cd_97, decode prog_1_method_28_code en.1 = .ok (en.2.1, en.2.2.1 - en.1) := by decide +kernel
set_option maxRecDepth 100000 in
set_option maxHeartbeats 4000000 in
theorem ok_97 (cA : Nat → ClassId) : mq_okm pg_cl (pg_tys cA) (pg_E cA) pg_Z pg_sw pg_mx pg_X 97 cd_97 := ⟨by decide +kernel, by decide +kernel, mq_ok_of dc_97 ⟨⟨rfl, trivial⟩,
  ⟨rfl, trivial⟩,
  ⟨rfl, 1, _, rfl, ⟨okg 91 _ gc_91, gw_45 _, gw_368 _, ⟨by decide +kernel, by decide +kernel, by decide +kernel⟩, by decide +kernel⟩, gw_370 _, rfl, gw_3 _⟩,
  ⟨rfl, (by decide : 4 < 5)⟩,
  ⟨rfl, trivial⟩,
  ⟨rfl, (by decide : ((9 : Nat) : Int) + 15 = ((24 : Nat) : Int))⟩,
  ⟨rfl, trivial⟩,
  ⟨rfl, _, _, _, _, okc_0 cA _, (by decide : 2 < 8), gw_249 _, trivial, ⟨rfl, rfl⟩⟩,
  ⟨rfl, trivial⟩,
  ⟨rfl, _, _, _, _, okc_4 cA _, (by decide : 0 < 9), gw_207 _, trivial, ⟨rfl, rfl⟩⟩,
  ⟨rfl, (by decide : ((21 : Nat) : Int) + 5 = ((26 : Nat) : Int))⟩,
  ⟨rfl, (by decide : Int32.ofInt 1 = 1)⟩,
  ⟨rfl, Or.inr rfl⟩,
  ⟨rfl, trivial⟩,
  ⟨rfl, trivial⟩,
  ⟨rfl, trivial⟩,
  ⟨rfl, _, _, _, _, okc_6 cA _, (by decide : 5 < 8), gw_279 _, trivial, ⟨rfl, rfl⟩⟩,
  ⟨rfl, 2, _, rfl, ⟨okg 3 _ gc_3, gw_51 _, gw_773 _, ⟨by decide +kernel, by decide +kernel, by decide +kernel⟩, by decide +kernel⟩, gw_774 _, rfl, gw_775 _⟩,
  ⟨rfl, Or.inr rfl⟩, trivial⟩⟩
-- PartitionKernel.receive
set_option maxRecDepth 100000 in
theorem dc_98 : ∀ en ∈ cd_98, decode prog_1_method_29_code en.1 = .ok (en.2.1, en.2.2.1 - en.1) := by decide +kernel
set_option maxRecDepth 100000 in
set_option maxHeartbeats 4000000 in
theorem ok_98 (cA : Nat → ClassId) : mq_okm pg_cl (pg_tys cA) (pg_E cA) pg_Z pg_sw pg_mx pg_X 98 cd_98 := ⟨by decide +kernel, by decide +kernel, mq_ok_of dc_98 ⟨⟨rfl, trivial⟩,
  ⟨rfl, trivial⟩,
  ⟨rfl, 1, _, rfl, ⟨okg 91 _ gc_91, gw_45 _, gw_368 _, ⟨by decide +kernel, by decide +kernel, by decide +kernel⟩, by decide +kernel⟩, gw_370 _, rfl, gw_3 _⟩,
  ⟨rfl, (by decide : 4 < 5)⟩,
  ⟨rfl, trivial⟩,
  ⟨rfl, (by decide : ((9 : Nat) : Int) + 15 = ((24 : Nat) : Int))⟩,
  ⟨rfl, trivial⟩,
  ⟨rfl, _, _, _, _, okc_0 cA _, (by decide : 3 < 8), gw_251 _, trivial, ⟨rfl, rfl⟩⟩,
  ⟨rfl, trivial⟩,
  ⟨rfl, _, _, _, _, okc_4 cA _, (by decide : 0 < 9), gw_207 _, trivial, ⟨rfl, rfl⟩⟩,
  ⟨rfl, (by decide : ((21 : Nat) : Int) + 5 = ((26 : Nat) : Int))⟩,
  ⟨rfl, (by decide : Int32.ofInt 1 = 1)⟩,
  ⟨rfl, Or.inr rfl⟩,
  ⟨rfl, trivial⟩,
  ⟨rfl, _, _, _, _, okc_0 cA _, (by decide : 6 < 8), gw_255 _, trivial, ⟨rfl, rfl⟩⟩,
  ⟨rfl, (by decide : ((31 : Nat) : Int) + 5 = ((36 : Nat) : Int))⟩,
  ⟨rfl, (by decide : Int32.ofInt 2 = 2)⟩,
  ⟨rfl, Or.inr rfl⟩,
  ⟨rfl, trivial⟩,
  ⟨rfl, (by decide : (Int8.ofInt 11).toInt32 = 11)⟩,
  ⟨rfl, trivial⟩,
  ⟨rfl, (by decide : Int32.ofInt 0 = 0)⟩,
  ⟨rfl, 1, _, rfl, ⟨okg 5 _ gc_5, gw_51 _, gw_380 _, ⟨by decide +kernel, by decide +kernel, by decide +kernel⟩, by decide +kernel⟩, gw_381 _, rfl, gw_382 _⟩,
  ⟨rfl, 2, _, rfl, ⟨okg 44 _ gc_44, gw_50 _, gw_781 _, ⟨by decide +kernel, by decide +kernel, by decide +kernel⟩, by decide +kernel⟩, gw_664 _, rfl, gw_665 _⟩,
  ⟨rfl, trivial⟩,
  ⟨rfl, trivial⟩,
  ⟨rfl, _, _, _, _, okc_6 cA _, (by decide : 5 < 8), gw_279 _, trivial, ⟨rfl, rfl⟩⟩,
  ⟨rfl, 1, _, rfl, ⟨okg 4 _ gc_4, gw_51 _, gw_782 _, ⟨by decide +kernel, by decide +kernel, by decide +kernel⟩, by decide +kernel⟩, gw_783 _, rfl, gw_784 _⟩,
  ⟨rfl, Or.inr rfl⟩, trivial⟩⟩
-- PartitionKernelModel.<init>
set_option maxRecDepth 100000 in
theorem dc_99 : ∀ en ∈ cd_99, decode prog_10_method_1_code en.1 = .ok (en.2.1, en.2.2.1 - en.1) := by decide +kernel
set_option maxRecDepth 100000 in
set_option maxHeartbeats 4000000 in
theorem ok_99 (cA : Nat → ClassId) : mq_okm pg_cl (pg_tys cA) (pg_E cA) pg_Z pg_sw pg_mx pg_X 99 cd_99 := ⟨by decide +kernel, by decide +kernel, mq_ok_of dc_99 ⟨⟨rfl, trivial⟩,
  ⟨rfl, rfl, gw_795 _, gw_67 _, gw_obj _⟩,
  ⟨rfl, trivial⟩,
  ⟨rfl, (by decide : (Int8.ofInt 8).toInt32 = 8)⟩,
  ⟨rfl, (by decide : 11 ≠ 999), (by decide : 8 ≤ 65536), Or.inl ⟨rfl, rfl, gw_96 _⟩⟩,
  ⟨rfl, _, _, _, _, okc_7 cA _, (by decide : 6 < 44), gw_802 _, Or.inr ⟨rfl, rfl, rfl⟩, ⟨rfl, Or.inr ⟨_, rfl⟩⟩⟩,
  ⟨rfl, trivial⟩,
  ⟨rfl, (by decide : (Int8.ofInt 8).toInt32 = 8)⟩,
  ⟨rfl, (by decide : 11 ≠ 999), (by decide : 8 ≤ 65536), Or.inl ⟨rfl, rfl, gw_96 _⟩⟩,
  ⟨rfl, _, _, _, _, okc_7 cA _, (by decide : 7 < 44), gw_803 _, Or.inr ⟨rfl, rfl, rfl⟩, ⟨rfl, Or.inr ⟨_, rfl⟩⟩⟩,
  ⟨rfl, trivial⟩,
  ⟨rfl, (by decide : (Int16.ofInt 4096).toInt32 = 4096)⟩,
  ⟨rfl, (by decide : 30 ≠ 999), (by decide : 4096 ≤ 65536), Or.inr (Or.inr (Or.inl ⟨rfl, rfl, gw_481 _⟩))⟩,
  ⟨rfl, _, _, _, _, okc_7 cA _, (by decide : 8 < 44), gw_804 _, Or.inr ⟨rfl, rfl, rfl⟩, ⟨rfl, Or.inr ⟨_, rfl⟩⟩⟩,
  ⟨rfl, trivial⟩,
  ⟨rfl, (by decide : (Int8.ofInt 16).toInt32 = 16)⟩,
  ⟨rfl, (by decide : 12 ≠ 999), (by decide : 16 ≤ 65536), Or.inl ⟨rfl, rfl, gw_96 _⟩⟩,
  ⟨rfl, _, _, _, _, okc_7 cA _, (by decide : 9 < 44), gw_805 _, Or.inr ⟨rfl, rfl, rfl⟩, ⟨rfl, Or.inr ⟨_, rfl⟩⟩⟩,
  ⟨rfl, trivial⟩,
  ⟨rfl, (by decide : (Int8.ofInt 16).toInt32 = 16)⟩,
  ⟨rfl, (by decide : 12 ≠ 999), (by decide : 16 ≤ 65536), Or.inl ⟨rfl, rfl, gw_96 _⟩⟩,
  ⟨rfl, _, _, _, _, okc_7 cA _, (by decide : 10 < 44), gw_806 _, Or.inr ⟨rfl, rfl, rfl⟩, ⟨rfl, Or.inr ⟨_, rfl⟩⟩⟩,
  ⟨rfl, trivial⟩,
  ⟨rfl, (by decide : Int32.ofInt 4 = 4)⟩,
  ⟨rfl, (by decide : 10 ≠ 999), (by decide : 4 ≤ 65536), Or.inl ⟨rfl, rfl, gw_96 _⟩⟩,
  ⟨rfl, _, _, _, _, okc_7 cA _, (by decide : 11 < 44), gw_807 _, Or.inr ⟨rfl, rfl, rfl⟩, ⟨rfl, Or.inr ⟨_, rfl⟩⟩⟩,
  ⟨rfl, trivial⟩,
  ⟨rfl, (by decide : Int32.ofInt 4 = 4)⟩,
  ⟨rfl, (by decide : 10 ≠ 999), (by decide : 4 ≤ 65536), Or.inl ⟨rfl, rfl, gw_96 _⟩⟩,
  ⟨rfl, _, _, _, _, okc_7 cA _, (by decide : 12 < 44), gw_808 _, Or.inr ⟨rfl, rfl, rfl⟩, ⟨rfl, Or.inr ⟨_, rfl⟩⟩⟩,
  ⟨rfl, trivial⟩,
  ⟨rfl, (by decide : Int32.ofInt 4 = 4)⟩,
  ⟨rfl, (by decide : 31 ≠ 999), (by decide : 4 ≤ 65536), Or.inr (Or.inr (Or.inr ⟨rfl, rfl, gw_929 _⟩))⟩,
  ⟨rfl, _, _, _, _, okc_7 cA _, (by decide : 13 < 44), gw_809 _, Or.inr ⟨rfl, rfl, rfl⟩, ⟨rfl, Or.inr ⟨_, rfl⟩⟩⟩,
  ⟨rfl, trivial⟩,
  ⟨rfl, (by decide : (Int8.ofInt 32).toInt32 = 32)⟩,
  ⟨rfl, (by decide : 13 ≠ 999), (by decide : 32 ≤ 65536), Or.inl ⟨rfl, rfl, gw_96 _⟩⟩,
  ⟨rfl, _, _, _, _, okc_7 cA _, (by decide : 14 < 44), gw_810 _, Or.inr ⟨rfl, rfl, rfl⟩, ⟨rfl, Or.inr ⟨_, rfl⟩⟩⟩,
  ⟨rfl, trivial⟩,
  ⟨rfl, (by decide : (Int8.ofInt 32).toInt32 = 32)⟩,
  ⟨rfl, (by decide : 13 ≠ 999), (by decide : 32 ≤ 65536), Or.inl ⟨rfl, rfl, gw_96 _⟩⟩,
  ⟨rfl, _, _, _, _, okc_7 cA _, (by decide : 15 < 44), gw_811 _, Or.inr ⟨rfl, rfl, rfl⟩, ⟨rfl, Or.inr ⟨_, rfl⟩⟩⟩,
  ⟨rfl, trivial⟩,
  ⟨rfl, (by decide : (Int8.ofInt 32).toInt32 = 32)⟩,
  ⟨rfl, (by decide : 13 ≠ 999), (by decide : 32 ≤ 65536), Or.inl ⟨rfl, rfl, gw_96 _⟩⟩,
  ⟨rfl, _, _, _, _, okc_7 cA _, (by decide : 16 < 44), gw_812 _, Or.inr ⟨rfl, rfl, rfl⟩, ⟨rfl, Or.inr ⟨_, rfl⟩⟩⟩,
  ⟨rfl, trivial⟩,
  ⟨rfl, (by decide : (Int8.ofInt 32).toInt32 = 32)⟩,
  ⟨rfl, (by decide : 13 ≠ 999), (by decide : 32 ≤ 65536), Or.inl ⟨rfl, rfl, gw_96 _⟩⟩,
  ⟨rfl, _, _, _, _, okc_7 cA _, (by decide : 17 < 44), gw_813 _, Or.inr ⟨rfl, rfl, rfl⟩, ⟨rfl, Or.inr ⟨_, rfl⟩⟩⟩,
  ⟨rfl, trivial⟩,
  ⟨rfl, (by decide : (Int8.ofInt 32).toInt32 = 32)⟩,
  ⟨rfl, (by decide : 13 ≠ 999), (by decide : 32 ≤ 65536), Or.inl ⟨rfl, rfl, gw_96 _⟩⟩,
  ⟨rfl, _, _, _, _, okc_7 cA _, (by decide : 18 < 44), gw_814 _, Or.inr ⟨rfl, rfl, rfl⟩, ⟨rfl, Or.inr ⟨_, rfl⟩⟩⟩,
  ⟨rfl, trivial⟩,
  ⟨rfl, (by decide : (Int8.ofInt 32).toInt32 = 32)⟩,
  ⟨rfl, (by decide : 13 ≠ 999), (by decide : 32 ≤ 65536), Or.inl ⟨rfl, rfl, gw_96 _⟩⟩,
  ⟨rfl, _, _, _, _, okc_7 cA _, (by decide : 19 < 44), gw_815 _, Or.inr ⟨rfl, rfl, rfl⟩, ⟨rfl, Or.inr ⟨_, rfl⟩⟩⟩,
  ⟨rfl, trivial⟩,
  ⟨rfl, (by decide : (Int8.ofInt 32).toInt32 = 32)⟩,
  ⟨rfl, (by decide : 13 ≠ 999), (by decide : 32 ≤ 65536), Or.inl ⟨rfl, rfl, gw_96 _⟩⟩,
  ⟨rfl, _, _, _, _, okc_7 cA _, (by decide : 20 < 44), gw_816 _, Or.inr ⟨rfl, rfl, rfl⟩, ⟨rfl, Or.inr ⟨_, rfl⟩⟩⟩,
  ⟨rfl, trivial⟩,
  ⟨rfl, (by decide : (Int8.ofInt 32).toInt32 = 32)⟩,
  ⟨rfl, (by decide : 13 ≠ 999), (by decide : 32 ≤ 65536), Or.inl ⟨rfl, rfl, gw_96 _⟩⟩,
  ⟨rfl, _, _, _, _, okc_7 cA _, (by decide : 21 < 44), gw_817 _, Or.inr ⟨rfl, rfl, rfl⟩, ⟨rfl, Or.inr ⟨_, rfl⟩⟩⟩,
  ⟨rfl, trivial⟩,
  ⟨rfl, (by decide : (Int8.ofInt 32).toInt32 = 32)⟩,
  ⟨rfl, (by decide : 13 ≠ 999), (by decide : 32 ≤ 65536), Or.inl ⟨rfl, rfl, gw_96 _⟩⟩,
  ⟨rfl, _, _, _, _, okc_7 cA _, (by decide : 22 < 44), gw_818 _, Or.inr ⟨rfl, rfl, rfl⟩, ⟨rfl, Or.inr ⟨_, rfl⟩⟩⟩,
  ⟨rfl, trivial⟩,
  ⟨rfl, (by decide : (Int8.ofInt 32).toInt32 = 32)⟩,
  ⟨rfl, (by decide : 13 ≠ 999), (by decide : 32 ≤ 65536), Or.inl ⟨rfl, rfl, gw_96 _⟩⟩,
  ⟨rfl, _, _, _, _, okc_7 cA _, (by decide : 23 < 44), gw_819 _, Or.inr ⟨rfl, rfl, rfl⟩, ⟨rfl, Or.inr ⟨_, rfl⟩⟩⟩,
  ⟨rfl, trivial⟩,
  ⟨rfl, (by decide : (Int8.ofInt 32).toInt32 = 32)⟩,
  ⟨rfl, (by decide : 13 ≠ 999), (by decide : 32 ≤ 65536), Or.inl ⟨rfl, rfl, gw_96 _⟩⟩,
  ⟨rfl, _, _, _, _, okc_7 cA _, (by decide : 24 < 44), gw_820 _, Or.inr ⟨rfl, rfl, rfl⟩, ⟨rfl, Or.inr ⟨_, rfl⟩⟩⟩,
  ⟨rfl, trivial⟩,
  ⟨rfl, (by decide : (Int8.ofInt 32).toInt32 = 32)⟩,
  ⟨rfl, (by decide : 13 ≠ 999), (by decide : 32 ≤ 65536), Or.inl ⟨rfl, rfl, gw_96 _⟩⟩,
  ⟨rfl, _, _, _, _, okc_7 cA _, (by decide : 25 < 44), gw_821 _, Or.inr ⟨rfl, rfl, rfl⟩, ⟨rfl, Or.inr ⟨_, rfl⟩⟩⟩,
  ⟨rfl, trivial⟩,
  ⟨rfl, (by decide : (Int16.ofInt 1024).toInt32 = 1024)⟩,
  ⟨rfl, (by decide : 16 ≠ 999), (by decide : 1024 ≤ 65536), Or.inl ⟨rfl, rfl, gw_96 _⟩⟩,
  ⟨rfl, _, _, _, _, okc_7 cA _, (by decide : 26 < 44), gw_822 _, Or.inr ⟨rfl, rfl, rfl⟩, ⟨rfl, Or.inr ⟨_, rfl⟩⟩⟩,
  ⟨rfl, trivial⟩,
  ⟨rfl, (by decide : (Int8.ofInt 8).toInt32 = 8)⟩,
  ⟨rfl, (by decide : 32 ≠ 999), (by decide : 8 ≤ 65536), Or.inr (Or.inr (Or.inr ⟨rfl, rfl, gw_929 _⟩))⟩,
  ⟨rfl, _, _, _, _, okc_7 cA _, (by decide : 29 < 44), gw_825 _, Or.inr ⟨rfl, rfl, rfl⟩, ⟨rfl, Or.inr ⟨_, rfl⟩⟩⟩,
  ⟨rfl, trivial⟩,
  ⟨rfl, (by decide : (Int8.ofInt 8).toInt32 = 8)⟩,
  ⟨rfl, (by decide : 11 ≠ 999), (by decide : 8 ≤ 65536), Or.inl ⟨rfl, rfl, gw_96 _⟩⟩,
  ⟨rfl, _, _, _, _, okc_7 cA _, (by decide : 30 < 44), gw_826 _, Or.inr ⟨rfl, rfl, rfl⟩, ⟨rfl, Or.inr ⟨_, rfl⟩⟩⟩,
  ⟨rfl, trivial⟩,
  ⟨rfl, (by decide : (Int8.ofInt 8).toInt32 = 8)⟩,
  ⟨rfl, (by decide : 11 ≠ 999), (by decide : 8 ≤ 65536), Or.inl ⟨rfl, rfl, gw_96 _⟩⟩,
  ⟨rfl, _, _, _, _, okc_7 cA _, (by decide : 31 < 44), gw_827 _, Or.inr ⟨rfl, rfl, rfl⟩, ⟨rfl, Or.inr ⟨_, rfl⟩⟩⟩,
  ⟨rfl, trivial⟩,
  ⟨rfl, (by decide : (Int8.ofInt 8).toInt32 = 8)⟩,
  ⟨rfl, (by decide : 11 ≠ 999), (by decide : 8 ≤ 65536), Or.inl ⟨rfl, rfl, gw_96 _⟩⟩,
  ⟨rfl, _, _, _, _, okc_7 cA _, (by decide : 32 < 44), gw_828 _, Or.inr ⟨rfl, rfl, rfl⟩, ⟨rfl, Or.inr ⟨_, rfl⟩⟩⟩,
  ⟨rfl, trivial⟩,
  ⟨rfl, (by decide : (Int8.ofInt 8).toInt32 = 8)⟩,
  ⟨rfl, (by decide : 11 ≠ 999), (by decide : 8 ≤ 65536), Or.inl ⟨rfl, rfl, gw_96 _⟩⟩,
  ⟨rfl, _, _, _, _, okc_7 cA _, (by decide : 33 < 44), gw_829 _, Or.inr ⟨rfl, rfl, rfl⟩, ⟨rfl, Or.inr ⟨_, rfl⟩⟩⟩,
  ⟨rfl, trivial⟩,
  ⟨rfl, (by decide : (Int8.ofInt 8).toInt32 = 8)⟩,
  ⟨rfl, (by decide : 11 ≠ 999), (by decide : 8 ≤ 65536), Or.inl ⟨rfl, rfl, gw_96 _⟩⟩,
  ⟨rfl, _, _, _, _, okc_7 cA _, (by decide : 34 < 44), gw_830 _, Or.inr ⟨rfl, rfl, rfl⟩, ⟨rfl, Or.inr ⟨_, rfl⟩⟩⟩,
  ⟨rfl, trivial⟩,
  ⟨rfl, (by decide : (Int8.ofInt 64).toInt32 = 64)⟩,
  ⟨rfl, (by decide : 14 ≠ 999), (by decide : 64 ≤ 65536), Or.inl ⟨rfl, rfl, gw_96 _⟩⟩,
  ⟨rfl, _, _, _, _, okc_7 cA _, (by decide : 35 < 44), gw_831 _, Or.inr ⟨rfl, rfl, rfl⟩, ⟨rfl, Or.inr ⟨_, rfl⟩⟩⟩,
  ⟨rfl, trivial⟩,
  ⟨rfl, (by decide : (Int8.ofInt 64).toInt32 = 64)⟩,
  ⟨rfl, (by decide : 14 ≠ 999), (by decide : 64 ≤ 65536), Or.inl ⟨rfl, rfl, gw_96 _⟩⟩,
  ⟨rfl, _, _, _, _, okc_7 cA _, (by decide : 37 < 44), gw_833 _, Or.inr ⟨rfl, rfl, rfl⟩, ⟨rfl, Or.inr ⟨_, rfl⟩⟩⟩,
  ⟨rfl, trivial⟩,
  ⟨rfl, (by decide : (Int8.ofInt 64).toInt32 = 64)⟩,
  ⟨rfl, (by decide : 14 ≠ 999), (by decide : 64 ≤ 65536), Or.inl ⟨rfl, rfl, gw_96 _⟩⟩,
  ⟨rfl, _, _, _, _, okc_7 cA _, (by decide : 38 < 44), gw_834 _, Or.inr ⟨rfl, rfl, rfl⟩, ⟨rfl, Or.inr ⟨_, rfl⟩⟩⟩,
  ⟨rfl, trivial⟩,
  ⟨rfl, (by decide : (Int8.ofInt 64).toInt32 = 64)⟩,
  ⟨rfl, (by decide : 14 ≠ 999), (by decide : 64 ≤ 65536), Or.inl ⟨rfl, rfl, gw_96 _⟩⟩,
  ⟨rfl, _, _, _, _, okc_7 cA _, (by decide : 39 < 44), gw_835 _, Or.inr ⟨rfl, rfl, rfl⟩, ⟨rfl, Or.inr ⟨_, rfl⟩⟩⟩,
  ⟨rfl, trivial⟩,
  ⟨rfl, (by decide : (Int8.ofInt 64).toInt32 = 64)⟩,
  ⟨rfl, (by decide : 14 ≠ 999), (by decide : 64 ≤ 65536), Or.inl ⟨rfl, rfl, gw_96 _⟩⟩,
  ⟨rfl, _, _, _, _, okc_7 cA _, (by decide : 40 < 44), gw_836 _, Or.inr ⟨rfl, rfl, rfl⟩, ⟨rfl, Or.inr ⟨_, rfl⟩⟩⟩,
  ⟨rfl, (by decide : Int32.ofInt 0 = 0)⟩,
  ⟨rfl, (by decide : 1 < 2)⟩,
  ⟨rfl, trivial⟩,
  ⟨rfl, (by decide : (Int8.ofInt 32).toInt32 = 32)⟩,
  ⟨rfl, (by decide : ((264 : Nat) : Int) + 30 = ((294 : Nat) : Int))⟩,
  ⟨rfl, trivial⟩,
  ⟨rfl, _, _, _, _, okc_7 cA _, (by decide : 20 < 44), gw_816 _, trivial, ⟨rfl, Or.inr ⟨_, rfl⟩⟩⟩,
  ⟨rfl, trivial⟩,
  ⟨rfl, (by decide : Int32.ofInt (-1) = (-1))⟩,
  ⟨rfl, trivial⟩,
  ⟨rfl, trivial⟩,
  ⟨rfl, _, _, _, _, okc_7 cA _, (by decide : 21 < 44), gw_817 _, trivial, ⟨rfl, Or.inr ⟨_, rfl⟩⟩⟩,
  ⟨rfl, trivial⟩,
  ⟨rfl, (by decide : Int32.ofInt (-1) = (-1))⟩,
  ⟨rfl, trivial⟩,
  ⟨rfl, trivial⟩,
  ⟨rfl, _, _, _, _, okc_7 cA _, (by decide : 22 < 44), gw_818 _, trivial, ⟨rfl, Or.inr ⟨_, rfl⟩⟩⟩,
  ⟨rfl, trivial⟩,
  ⟨rfl, (by decide : Int32.ofInt (-1) = (-1))⟩,
  ⟨rfl, trivial⟩,
  ⟨rfl, (by decide : 1 < 2), (by decide : Int32.ofInt 1 = 1)⟩,
  ⟨rfl, (by decide : ((291 : Nat) : Int) + (-30) = ((261 : Nat) : Int))⟩,
  ⟨rfl, rfl⟩, trivial⟩⟩
-- PartitionKernelModel.thrown
set_option maxRecDepth 100000 in
theorem dc_100 : ∀ en ∈ cd_100, decode prog_10_method_2_code en.1 = .ok (en.2.1, en.2.2.1 - en.1) := by decide +kernel
set_option maxRecDepth 100000 in
set_option maxHeartbeats 4000000 in
theorem ok_100 (cA : Nat → ClassId) : mq_okm pg_cl (pg_tys cA) (pg_E cA) pg_Z pg_sw pg_mx pg_X 100 cd_100 := ⟨by decide +kernel, by decide +kernel, mq_ok_of dc_100 ⟨⟨rfl, trivial⟩,
  ⟨rfl, _, _, _, _, okc_7 cA _, (by decide : 0 < 44), gw_796 _, trivial, ⟨rfl, rfl⟩⟩,
  ⟨rfl, Or.inr rfl⟩, trivial⟩⟩
-- PartitionKernelModel.in
set_option maxRecDepth 100000 in
theorem dc_101 : ∀ en ∈ cd_101, decode prog_10_method_3_code en.1 = .ok (en.2.1, en.2.2.1 - en.1) := by decide +kernel
set_option maxRecDepth 100000 in
set_option maxHeartbeats 4000000 in
theorem ok_101 (cA : Nat → ClassId) : mq_okm pg_cl (pg_tys cA) (pg_E cA) pg_Z pg_sw pg_mx pg_X 101 cd_101 := ⟨by decide +kernel, by decide +kernel, mq_ok_of dc_101 ⟨⟨rfl, trivial⟩,
  ⟨rfl, (by decide : ((1 : Nat) : Int) + 12 = ((13 : Nat) : Int))⟩,
  ⟨rfl, trivial⟩,
  ⟨rfl, trivial⟩,
  ⟨rfl, (by decide : ((6 : Nat) : Int) + 7 = ((13 : Nat) : Int))⟩,
  ⟨rfl, (by decide : Int32.ofInt 1 = 1)⟩,
  ⟨rfl, (by decide : ((10 : Nat) : Int) + 4 = ((14 : Nat) : Int))⟩,
  ⟨rfl, (by decide : Int32.ofInt 0 = 0)⟩,
  ⟨rfl, Or.inl ⟨rfl, rfl⟩⟩, trivial⟩⟩
-- PartitionKernelModel.ready
set_option maxRecDepth 100000 in
theorem dc_102 : ∀ en ∈ cd_102, decode prog_10_method_4_code en.1 = .ok (en.2.1, en.2.2.1 - en.1) := by decide +kernel
set_option maxRecDepth 100000 in
set_option maxHeartbeats 4000000 in
theorem ok_102 (cA : Nat → ClassId) : mq_okm pg_cl (pg_tys cA) (pg_E cA) pg_Z pg_sw pg_mx pg_X 102 cd_102 := ⟨by decide +kernel, by decide +kernel, mq_ok_of dc_102 ⟨⟨rfl, trivial⟩,
  ⟨rfl, _, _, _, _, okc_7 cA _, (by decide : 19 < 44), gw_815 _, trivial, ⟨rfl, Or.inr ⟨_, rfl⟩⟩⟩,
  ⟨rfl, trivial⟩,
  ⟨rfl, (by decide : Int32.ofInt 1 = 1)⟩,
  ⟨rfl, trivial⟩,
  ⟨rfl, trivial⟩,
  ⟨rfl, _, _, _, _, okc_7 cA _, (by decide : 21 < 44), gw_817 _, trivial, ⟨rfl, Or.inr ⟨_, rfl⟩⟩⟩,
  ⟨rfl, trivial⟩,
  ⟨rfl, (by decide : Int32.ofInt (-1) = (-1))⟩,
  ⟨rfl, trivial⟩,
  ⟨rfl, trivial⟩,
  ⟨rfl, _, _, _, _, okc_7 cA _, (by decide : 22 < 44), gw_818 _, trivial, ⟨rfl, Or.inr ⟨_, rfl⟩⟩⟩,
  ⟨rfl, trivial⟩,
  ⟨rfl, (by decide : Int32.ofInt (-1) = (-1))⟩,
  ⟨rfl, trivial⟩,
  ⟨rfl, trivial⟩,
  ⟨rfl, _, _, _, _, okc_7 cA _, (by decide : 23 < 44), gw_819 _, trivial, ⟨rfl, Or.inr ⟨_, rfl⟩⟩⟩,
  ⟨rfl, trivial⟩,
  ⟨rfl, trivial⟩,
  ⟨rfl, _, _, _, _, okc_7 cA _, (by decide : 27 < 44), gw_823 _, trivial, ⟨rfl, rfl⟩⟩,
  ⟨rfl, trivial⟩,
  ⟨rfl, trivial⟩,
  ⟨rfl, trivial⟩,
  ⟨rfl, _, _, _, _, okc_7 cA _, (by decide : 27 < 44), gw_823 _, trivial, ⟨rfl, rfl⟩⟩,
  ⟨rfl, (by decide : Int32.ofInt 1 = 1)⟩,
  ⟨rfl, trivial⟩,
  ⟨rfl, _, _, _, _, okc_7 cA _, (by decide : 27 < 44), gw_823 _, Or.inl rfl, ⟨rfl, rfl⟩⟩,
  ⟨rfl, rfl⟩, trivial⟩⟩
-- PartitionKernelModel.start
set_option maxRecDepth 100000 in
theorem dc_103 : ∀ en ∈ cd_103, decode prog_10_method_5_code en.1 = .ok (en.2.1, en.2.2.1 - en.1) := by decide +kernel
set_option maxRecDepth 100000 in
set_option maxHeartbeats 4000000 in
theorem ok_103 (cA : Nat → ClassId) : mq_okm pg_cl (pg_tys cA) (pg_E cA) pg_Z pg_sw pg_mx pg_X 103 cd_103 := ⟨by decide +kernel, by decide +kernel, mq_ok_of dc_103 ⟨⟨rfl, (by decide : Int32.ofInt 0 = 0)⟩,
  ⟨rfl, (by decide : 2 < 3)⟩,
  ⟨rfl, trivial⟩,
  ⟨rfl, (by decide : (Int8.ofInt 32).toInt32 = 32)⟩,
  ⟨rfl, (by decide : ((5 : Nat) : Int) + 21 = ((26 : Nat) : Int))⟩,
  ⟨rfl, trivial⟩,
  ⟨rfl, _, _, _, _, okc_7 cA _, (by decide : 26 < 44), gw_822 _, trivial, ⟨rfl, Or.inr ⟨_, rfl⟩⟩⟩,
  ⟨rfl, (by decide : (Int8.ofInt 32).toInt32 = 32)⟩,
  ⟨rfl, trivial⟩,
  ⟨rfl, trivial⟩,
  ⟨rfl, trivial⟩,
  ⟨rfl, trivial⟩,
  ⟨rfl, (by decide : Int32.ofInt 0 = 0)⟩,
  ⟨rfl, trivial⟩,
  ⟨rfl, (by decide : 2 < 3), (by decide : Int32.ofInt 1 = 1)⟩,
  ⟨rfl, (by decide : ((23 : Nat) : Int) + (-21) = ((2 : Nat) : Int))⟩,
  ⟨rfl, trivial⟩,
  ⟨rfl, _, _, _, _, okc_7 cA _, (by decide : 18 < 44), gw_814 _, trivial, ⟨rfl, Or.inr ⟨_, rfl⟩⟩⟩,
  ⟨rfl, trivial⟩,
  ⟨rfl, trivial⟩,
  ⟨rfl, _, _, _, _, okc_7 cA _, (by decide : 14 < 44), gw_810 _, trivial, ⟨rfl, Or.inr ⟨_, rfl⟩⟩⟩,
  ⟨rfl, trivial⟩,
  ⟨rfl, trivial⟩,
  ⟨rfl, trivial⟩,
  ⟨rfl, trivial⟩,
  ⟨rfl, _, _, _, _, okc_7 cA _, (by decide : 25 < 44), gw_821 _, trivial, ⟨rfl, Or.inr ⟨_, rfl⟩⟩⟩,
  ⟨rfl, trivial⟩,
  ⟨rfl, trivial⟩,
  ⟨rfl, _, _, _, _, okc_7 cA _, (by decide : 2 < 44), gw_798 _, trivial, ⟨rfl, rfl⟩⟩,
  ⟨rfl, trivial⟩,
  ⟨rfl, trivial⟩,
  ⟨rfl, _, _, _, _, okc_7 cA _, (by decide : 20 < 44), gw_816 _, trivial, ⟨rfl, Or.inr ⟨_, rfl⟩⟩⟩,
  ⟨rfl, trivial⟩,
  ⟨rfl, trivial⟩,
  ⟨rfl, _, _, _, _, okc_7 cA _, (by decide : 17 < 44), gw_813 _, trivial, ⟨rfl, Or.inr ⟨_, rfl⟩⟩⟩,
  ⟨rfl, trivial⟩,
  ⟨rfl, trivial⟩,
  ⟨rfl, (by decide : ((59 : Nat) : Int) + 17 = ((76 : Nat) : Int))⟩,
  ⟨rfl, trivial⟩,
  ⟨rfl, _, _, _, _, okc_7 cA _, (by decide : 2 < 44), gw_798 _, trivial, ⟨rfl, rfl⟩⟩,
  ⟨rfl, trivial⟩,
  ⟨rfl, _, _, _, _, okc_7 cA _, (by decide : 17 < 44), gw_813 _, trivial, ⟨rfl, Or.inr ⟨_, rfl⟩⟩⟩,
  ⟨rfl, trivial⟩,
  ⟨rfl, trivial⟩,
  ⟨rfl, trivial⟩,
  ⟨rfl, (by decide : ((73 : Nat) : Int) + 4 = ((77 : Nat) : Int))⟩,
  ⟨rfl, (by decide : Int32.ofInt (-1) = (-1))⟩,
  ⟨rfl, trivial⟩,
  ⟨rfl, trivial⟩,
  ⟨rfl, trivial⟩,
  ⟨rfl, 1, _, rfl, ⟨okg 102 _ gc_102, gw_52 _, gw_973 _, ⟨by decide +kernel, by decide +kernel, by decide +kernel⟩, by decide +kernel⟩, gw_975 _, rfl, gw_17 _⟩,
  ⟨rfl, rfl⟩, trivial⟩⟩
end
section
/-! Rows of methods, by program. -/
-- PartitionKernelModel.sleep
set_option maxRecDepth 100000 in
theorem dc_104 : ∀ en ∈ cd_104, decode prog_10_method_6_code en.1 = .ok (en.2.1, en.2.2.1 - en.1) := by decide +kernel
set_option maxRecDepth 100000 in
set_option maxHeartbeats 4000000 in
theorem ok_104 (cA : Nat → ClassId) : mq_okm pg_cl (pg_tys cA) (pg_E cA) pg_Z pg_sw pg_mx pg_X 104 cd_104 := ⟨by decide +kernel, by decide +kernel, mq_ok_of dc_104 ⟨⟨rfl, trivial⟩,
  ⟨rfl, _, _, _, _, okc_7 cA _, (by decide : 19 < 44), gw_815 _, trivial, ⟨rfl, Or.inr ⟨_, rfl⟩⟩⟩,
  ⟨rfl, trivial⟩,
  ⟨rfl, (by decide : Int32.ofInt 0 = 0)⟩,
  ⟨rfl, trivial⟩,
  ⟨rfl, trivial⟩,
  ⟨rfl, _, _, _, _, okc_7 cA _, (by decide : 20 < 44), gw_816 _, trivial, ⟨rfl, Or.inr ⟨_, rfl⟩⟩⟩,
  ⟨rfl, trivial⟩,
  ⟨rfl, (by decide : Int32.ofInt (-1) = (-1))⟩,
  ⟨rfl, trivial⟩,
  ⟨rfl, trivial⟩,
  ⟨rfl, _, _, _, _, okc_7 cA _, (by decide : 21 < 44), gw_817 _, trivial, ⟨rfl, Or.inr ⟨_, rfl⟩⟩⟩,
  ⟨rfl, trivial⟩,
  ⟨rfl, (by decide : Int32.ofInt (-1) = (-1))⟩,
  ⟨rfl, trivial⟩,
  ⟨rfl, trivial⟩,
  ⟨rfl, _, _, _, _, okc_7 cA _, (by decide : 22 < 44), gw_818 _, trivial, ⟨rfl, Or.inr ⟨_, rfl⟩⟩⟩,
  ⟨rfl, trivial⟩,
  ⟨rfl, (by decide : Int32.ofInt (-1) = (-1))⟩,
  ⟨rfl, trivial⟩,
  ⟨rfl, rfl⟩, trivial⟩⟩
-- PartitionKernelModel.restart
set_option maxRecDepth 100000 in
theorem dc_105 : ∀ en ∈ cd_105, decode prog_10_method_7_code en.1 = .ok (en.2.1, en.2.2.1 - en.1) := by decide +kernel
set_option maxRecDepth 100000 in
set_option maxHeartbeats 4000000 in
theorem ok_105 (cA : Nat → ClassId) : mq_okm pg_cl (pg_tys cA) (pg_E cA) pg_Z pg_sw pg_mx pg_X 105 cd_105 := ⟨by decide +kernel, by decide +kernel, mq_ok_of dc_105 ⟨⟨rfl, trivial⟩,
  ⟨rfl, _, _, _, _, okc_7 cA _, (by decide : 12 < 44), gw_808 _, trivial, ⟨rfl, Or.inr ⟨_, rfl⟩⟩⟩,
  ⟨rfl, trivial⟩,
  ⟨rfl, trivial⟩,
  ⟨rfl, trivial⟩,
  ⟨rfl, (by decide : Int32.ofInt 1 = 1)⟩,
  ⟨rfl, trivial⟩,
  ⟨rfl, trivial⟩,
  ⟨rfl, (by decide : Int32.ofInt 0 = 0)⟩,
  ⟨rfl, (by decide : 2 < 3)⟩,
  ⟨rfl, trivial⟩,
  ⟨rfl, (by decide : Int32.ofInt 4 = 4)⟩,
  ⟨rfl, (by decide : ((14 : Nat) : Int) + 20 = ((34 : Nat) : Int))⟩,
  ⟨rfl, trivial⟩,
  ⟨rfl, _, _, _, _, okc_7 cA _, (by decide : 10 < 44), gw_806 _, trivial, ⟨rfl, Or.inr ⟨_, rfl⟩⟩⟩,
  ⟨rfl, (by decide : Int32.ofInt 4 = 4)⟩,
  ⟨rfl, trivial⟩,
  ⟨rfl, trivial⟩,
  ⟨rfl, trivial⟩,
  ⟨rfl, trivial⟩,
  ⟨rfl, (by decide : Int32.ofInt 0 = 0)⟩,
  ⟨rfl, trivial⟩,
  ⟨rfl, (by decide : 2 < 3), (by decide : Int32.ofInt 1 = 1)⟩,
  ⟨rfl, (by decide : ((31 : Nat) : Int) + (-19) = ((12 : Nat) : Int))⟩,
  ⟨rfl, (by decide : Int32.ofInt 0 = 0)⟩,
  ⟨rfl, (by decide : 2 < 3)⟩,
  ⟨rfl, trivial⟩,
  ⟨rfl, trivial⟩,
  ⟨rfl, _, _, _, _, okc_7 cA _, (by decide : 11 < 44), gw_807 _, trivial, ⟨rfl, Or.inr ⟨_, rfl⟩⟩⟩,
  ⟨rfl, trivial⟩,
  ⟨rfl, trivial⟩,
  ⟨rfl, (by decide : ((43 : Nat) : Int) + 19 = ((62 : Nat) : Int))⟩,
  ⟨rfl, trivial⟩,
  ⟨rfl, (by decide : (Int8.ofInt 8).toInt32 = 8)⟩,
  ⟨rfl, trivial⟩,
  ⟨rfl, trivial⟩,
  ⟨rfl, trivial⟩,
  ⟨rfl, trivial⟩,
  ⟨rfl, 1, _, rfl, ⟨okg 103 _ gc_103, gw_52 _, gw_969 _, ⟨by decide +kernel, by decide +kernel, by decide +kernel⟩, by decide +kernel⟩, gw_971 _, rfl, gw_16 _⟩,
  ⟨rfl, (by decide : 2 < 3), (by decide : Int32.ofInt 1 = 1)⟩,
  ⟨rfl, (by decide : ((59 : Nat) : Int) + (-23) = ((36 : Nat) : Int))⟩,
  ⟨rfl, rfl⟩, trivial⟩⟩
-- PartitionKernelModel.fails
set_option maxRecDepth 100000 in
theorem dc_106 : ∀ en ∈ cd_106, decode prog_10_method_8_code en.1 = .ok (en.2.1, en.2.2.1 - en.1) := by decide +kernel
set_option maxRecDepth 100000 in
set_option maxHeartbeats 4000000 in
theorem ok_106 (cA : Nat → ClassId) : mq_okm pg_cl (pg_tys cA) (pg_E cA) pg_Z pg_sw pg_mx pg_X 106 cd_106 := ⟨by decide +kernel, by decide +kernel, mq_ok_of dc_106 ⟨⟨rfl, trivial⟩,
  ⟨rfl, _, _, _, _, okc_7 cA _, (by decide : 36 < 44), gw_832 _, trivial, ⟨rfl, rfl⟩⟩,
  ⟨rfl, (by decide : (Int8.ofInt 64).toInt32 = 64)⟩,
  ⟨rfl, trivial⟩,
  ⟨rfl, (by decide : 4 < 6)⟩,
  ⟨rfl, trivial⟩,
  ⟨rfl, _, _, _, _, okc_7 cA _, (by decide : 37 < 44), gw_833 _, trivial, ⟨rfl, Or.inr ⟨_, rfl⟩⟩⟩,
  ⟨rfl, trivial⟩,
  ⟨rfl, trivial⟩,
  ⟨rfl, _, _, _, _, okc_7 cA _, (by decide : 2 < 44), gw_798 _, trivial, ⟨rfl, rfl⟩⟩,
  ⟨rfl, trivial⟩,
  ⟨rfl, trivial⟩,
  ⟨rfl, _, _, _, _, okc_7 cA _, (by decide : 38 < 44), gw_834 _, trivial, ⟨rfl, Or.inr ⟨_, rfl⟩⟩⟩,
  ⟨rfl, trivial⟩,
  ⟨rfl, trivial⟩,
  ⟨rfl, trivial⟩,
  ⟨rfl, trivial⟩,
  ⟨rfl, _, _, _, _, okc_7 cA _, (by decide : 39 < 44), gw_835 _, trivial, ⟨rfl, Or.inr ⟨_, rfl⟩⟩⟩,
  ⟨rfl, trivial⟩,
  ⟨rfl, trivial⟩,
  ⟨rfl, trivial⟩,
  ⟨rfl, trivial⟩,
  ⟨rfl, _, _, _, _, okc_7 cA _, (by decide : 40 < 44), gw_836 _, trivial, ⟨rfl, Or.inr ⟨_, rfl⟩⟩⟩,
  ⟨rfl, trivial⟩,
  ⟨rfl, trivial⟩,
  ⟨rfl, trivial⟩,
  ⟨rfl, trivial⟩,
  ⟨rfl, trivial⟩,
  ⟨rfl, _, _, _, _, okc_7 cA _, (by decide : 36 < 44), gw_832 _, trivial, ⟨rfl, rfl⟩⟩,
  ⟨rfl, (by decide : Int32.ofInt 1 = 1)⟩,
  ⟨rfl, trivial⟩,
  ⟨rfl, _, _, _, _, okc_7 cA _, (by decide : 36 < 44), gw_832 _, Or.inl rfl, ⟨rfl, rfl⟩⟩,
  ⟨rfl, (by decide : (Int8.ofInt 8).toInt32 = 8)⟩,
  ⟨rfl, trivial⟩,
  ⟨rfl, trivial⟩,
  ⟨rfl, trivial⟩,
  ⟨rfl, trivial⟩,
  ⟨rfl, (by decide : 5 < 6)⟩,
  ⟨rfl, trivial⟩,
  ⟨rfl, _, _, _, _, okc_7 cA _, (by decide : 9 < 44), gw_805 _, trivial, ⟨rfl, Or.inr ⟨_, rfl⟩⟩⟩,
  ⟨rfl, (by decide : Int32.ofInt 4 = 4)⟩,
  ⟨rfl, trivial⟩,
  ⟨rfl, trivial⟩,
  ⟨rfl, trivial⟩,
  ⟨rfl, trivial⟩,
  ⟨rfl, trivial⟩,
  ⟨by decide, by decide, by decide, by decide, by decide, by decide, by decide, by decide, by decide, by decide, trivial⟩,
  ⟨rfl, trivial⟩,
  ⟨rfl, (by decide : Int32.ofInt 2 = 2)⟩,
  ⟨rfl, (by decide : ((106 : Nat) : Int) + 14 = ((120 : Nat) : Int))⟩,
  ⟨rfl, trivial⟩,
  ⟨rfl, _, _, _, _, okc_7 cA _, (by decide : 18 < 44), gw_814 _, trivial, ⟨rfl, Or.inr ⟨_, rfl⟩⟩⟩,
  ⟨rfl, trivial⟩,
  ⟨rfl, trivial⟩,
  ⟨rfl, trivial⟩,
  ⟨rfl, (by decide : Int32.ofInt 4 = 4)⟩,
  ⟨rfl, trivial⟩,
  ⟨rfl, trivial⟩,
  ⟨rfl, (by decide : Int32.ofInt 0 = 0)⟩,
  ⟨rfl, Or.inl ⟨rfl, rfl⟩⟩,
  ⟨rfl, trivial⟩,
  ⟨rfl, trivial⟩,
  ⟨rfl, 1, _, rfl, ⟨okg 104 _ gc_104, gw_52 _, gw_1001 _, ⟨by decide +kernel, by decide +kernel, by decide +kernel⟩, by decide +kernel⟩, gw_1003 _, rfl, gw_23 _⟩,
  ⟨rfl, (by decide : Int32.ofInt 0 = 0)⟩,
  ⟨rfl, Or.inl ⟨rfl, rfl⟩⟩,
  ⟨rfl, trivial⟩,
  ⟨rfl, trivial⟩,
  ⟨rfl, 1, _, rfl, ⟨okg 103 _ gc_103, gw_52 _, gw_969 _, ⟨by decide +kernel, by decide +kernel, by decide +kernel⟩, by decide +kernel⟩, gw_971 _, rfl, gw_16 _⟩,
  ⟨rfl, (by decide : Int32.ofInt 0 = 0)⟩,
  ⟨rfl, Or.inl ⟨rfl, rfl⟩⟩,
  ⟨rfl, trivial⟩,
  ⟨rfl, trivial⟩,
  ⟨rfl, 1, _, rfl, ⟨okg 105 _ gc_105, gw_52 _, gw_1005 _, ⟨by decide +kernel, by decide +kernel, by decide +kernel⟩, by decide +kernel⟩, gw_1007 _, rfl, gw_24 _⟩,
  ⟨rfl, (by decide : Int32.ofInt 1 = 1)⟩,
  ⟨rfl, Or.inl ⟨rfl, rfl⟩⟩,
  ⟨rfl, trivial⟩,
  ⟨rfl, _, _, _, _, okc_7 cA _, (by decide : 13 < 44), gw_809 _, trivial, ⟨rfl, Or.inr ⟨_, rfl⟩⟩⟩,
  ⟨rfl, trivial⟩,
  ⟨rfl, (by decide : Int32.ofInt 1 = 1)⟩,
  ⟨rfl, trivial⟩,
  ⟨rfl, (by decide : Int32.ofInt 1 = 1)⟩,
  ⟨rfl, Or.inl ⟨rfl, rfl⟩⟩, trivial⟩⟩
-- PartitionKernelModel.isPlace
set_option maxRecDepth 100000 in
theorem dc_107 : ∀ en ∈ cd_107, decode prog_10_method_9_code en.1 = .ok (en.2.1, en.2.2.1 - en.1) := by decide +kernel
set_option maxRecDepth 100000 in
set_option maxHeartbeats 4000000 in
theorem ok_107 (cA : Nat → ClassId) : mq_okm pg_cl (pg_tys cA) (pg_E cA) pg_Z pg_sw pg_mx pg_X 107 cd_107 := ⟨by decide +kernel, by decide +kernel, mq_ok_of dc_107 ⟨⟨rfl, trivial⟩,
  ⟨rfl, (by decide : (Int16.ofInt 1024).toInt32 = 1024)⟩,
  ⟨rfl, ⟨okg 101 _ gc_101, gw_52 _, Or.inl (gw_938 _), ⟨by decide +kernel, by decide +kernel, by decide +kernel⟩, by decide +kernel⟩, gw_939 _⟩,
  ⟨rfl, (by decide : ((7 : Nat) : Int) + 13 = ((20 : Nat) : Int))⟩,
  ⟨rfl, trivial⟩,
  ⟨rfl, trivial⟩,
  ⟨rfl, trivial⟩,
  ⟨rfl, (by decide : ((13 : Nat) : Int) + 7 = ((20 : Nat) : Int))⟩,
  ⟨rfl, (by decide : Int32.ofInt 1 = 1)⟩,
  ⟨rfl, (by decide : ((17 : Nat) : Int) + 4 = ((21 : Nat) : Int))⟩,
  ⟨rfl, (by decide : Int32.ofInt 0 = 0)⟩,
  ⟨rfl, Or.inl ⟨rfl, rfl⟩⟩, trivial⟩⟩
-- PartitionKernelModel.load
set_option maxRecDepth 100000 in
theorem dc_108 : ∀ en ∈ cd_108, decode prog_10_method_10_code en.1 = .ok (en.2.1, en.2.2.1 - en.1) := by decide +kernel
set_option maxRecDepth 100000 in
set_option maxHeartbeats 4000000 in
theorem ok_108 (cA : Nat → ClassId) : mq_okm pg_cl (pg_tys cA) (pg_E cA) pg_Z pg_sw pg_mx pg_X 108 cd_108 := ⟨by decide +kernel, by decide +kernel, mq_ok_of dc_108 ⟨⟨rfl, (by decide : Int32.ofInt 0 = 0)⟩,
  ⟨rfl, (by decide : 4 < 6)⟩,
  ⟨rfl, trivial⟩,
  ⟨rfl, (by decide : Int32.ofInt 1 = 1)⟩,
  ⟨rfl, trivial⟩,
  ⟨rfl, (by decide : 5 < 6)⟩,
  ⟨rfl, trivial⟩,
  ⟨rfl, (by decide : ((10 : Nat) : Int) + 36 = ((46 : Nat) : Int))⟩,
  ⟨rfl, trivial⟩,
  ⟨rfl, (by decide : (Int8.ofInt 8).toInt32 = 8)⟩,
  ⟨rfl, trivial⟩,
  ⟨rfl, trivial⟩,
  ⟨rfl, _, _, _, _, okc_7 cA _, (by decide : 8 < 44), gw_804 _, trivial, ⟨rfl, Or.inr ⟨_, rfl⟩⟩⟩,
  ⟨rfl, (by decide : (Int16.ofInt 1024).toInt32 = 1024)⟩,
  ⟨rfl, trivial⟩,
  ⟨rfl, trivial⟩,
  ⟨rfl, trivial⟩,
  ⟨rfl, trivial⟩,
  ⟨rfl, trivial⟩,
  ⟨rfl, trivial⟩,
  ⟨rfl, trivial⟩,
  ⟨rfl, (by decide : (Int16.ofInt 255).toInt32 = 255)⟩,
  ⟨rfl, trivial⟩,
  ⟨rfl, trivial⟩,
  ⟨rfl, (by decide : 4 < 6)⟩,
  ⟨rfl, (by decide : 5 < 6), (by decide : Int32.ofInt (-1) = (-1))⟩,
  ⟨rfl, (by decide : ((43 : Nat) : Int) + (-35) = ((8 : Nat) : Int))⟩,
  ⟨rfl, trivial⟩,
  ⟨rfl, Or.inr rfl⟩, trivial⟩⟩
-- PartitionKernelModel.store
set_option maxRecDepth 100000 in
theorem dc_109 : ∀ en ∈ cd_109, decode prog_10_method_11_code en.1 = .ok (en.2.1, en.2.2.1 - en.1) := by decide +kernel
set_option maxRecDepth 100000 in
set_option maxHeartbeats 4000000 in
theorem ok_109 (cA : Nat → ClassId) : mq_okm pg_cl (pg_tys cA) (pg_E cA) pg_Z pg_sw pg_mx pg_X 109 cd_109 := ⟨by decide +kernel, by decide +kernel, mq_ok_of dc_109 ⟨⟨rfl, (by decide : Int32.ofInt 0 = 0)⟩,
  ⟨rfl, (by decide : 5 < 6)⟩,
  ⟨rfl, trivial⟩,
  ⟨rfl, trivial⟩,
  ⟨rfl, (by decide : ((6 : Nat) : Int) + 33 = ((39 : Nat) : Int))⟩,
  ⟨rfl, trivial⟩,
  ⟨rfl, _, _, _, _, okc_7 cA _, (by decide : 8 < 44), gw_804 _, trivial, ⟨rfl, Or.inr ⟨_, rfl⟩⟩⟩,
  ⟨rfl, (by decide : (Int16.ofInt 1024).toInt32 = 1024)⟩,
  ⟨rfl, trivial⟩,
  ⟨rfl, trivial⟩,
  ⟨rfl, trivial⟩,
  ⟨rfl, trivial⟩,
  ⟨rfl, trivial⟩,
  ⟨rfl, trivial⟩,
  ⟨rfl, trivial⟩,
  ⟨rfl, (by decide : (Int8.ofInt 8).toInt32 = 8)⟩,
  ⟨rfl, trivial⟩,
  ⟨rfl, trivial⟩,
  ⟨rfl, trivial⟩,
  ⟨rfl, trivial⟩,
  ⟨rfl, trivial⟩,
  ⟨rfl, (by decide : 5 < 6), (by decide : Int32.ofInt 1 = 1)⟩,
  ⟨rfl, (by decide : ((36 : Nat) : Int) + (-33) = ((3 : Nat) : Int))⟩,
  ⟨rfl, rfl⟩, trivial⟩⟩
-- PartitionKernelModel.bits
set_option maxRecDepth 100000 in
theorem dc_110 : ∀ en ∈ cd_110, decode prog_10_method_12_code en.1 = .ok (en.2.1, en.2.2.1 - en.1) := by decide +kernel
set_option maxRecDepth 100000 in
set_option maxHeartbeats 4000000 in
theorem ok_110 (cA : Nat → ClassId) : mq_okm pg_cl (pg_tys cA) (pg_E cA) pg_Z pg_sw pg_mx pg_X 110 cd_110 := ⟨by decide +kernel, by decide +kernel, mq_ok_of dc_110 ⟨⟨rfl, trivial⟩,
  ⟨rfl, trivial⟩,
  ⟨rfl, trivial⟩,
  ⟨rfl, (by decide : Int32.ofInt 1 = 1)⟩,
  ⟨rfl, trivial⟩,
  ⟨rfl, trivial⟩,
  ⟨rfl, (by decide : Int32.ofInt 1 = 1)⟩,
  ⟨rfl, trivial⟩,
  ⟨rfl, trivial⟩,
  ⟨rfl, Or.inr rfl⟩, trivial⟩⟩
-- PartitionKernelModel.isBelow
set_option maxRecDepth 100000 in
theorem dc_111 : ∀ en ∈ cd_111, decode prog_10_method_13_code en.1 = .ok (en.2.1, en.2.2.1 - en.1) := by decide +kernel
set_option maxRecDepth 100000 in
set_option maxHeartbeats 4000000 in
theorem ok_111 (cA : Nat → ClassId) : mq_okm pg_cl (pg_tys cA) (pg_E cA) pg_Z pg_sw pg_mx pg_X 111 cd_111 := ⟨by decide +kernel, by decide +kernel, mq_ok_of dc_111 ⟨⟨rfl, trivial⟩,
  ⟨rfl, trivial⟩,
  ⟨rfl, gw_1038 _⟩,
  ⟨rfl, trivial⟩,
  ⟨rfl, trivial⟩,
  ⟨rfl, trivial⟩,
  ⟨rfl, gw_1038 _⟩,
  ⟨rfl, trivial⟩,
  ⟨rfl, trivial⟩,
  ⟨rfl, (by decide : ((13 : Nat) : Int) + 7 = ((20 : Nat) : Int))⟩,
  ⟨rfl, (by decide : Int32.ofInt 1 = 1)⟩,
  ⟨rfl, (by decide : ((17 : Nat) : Int) + 4 = ((21 : Nat) : Int))⟩,
  ⟨rfl, (by decide : Int32.ofInt 0 = 0)⟩,
  ⟨rfl, Or.inl ⟨rfl, rfl⟩⟩, trivial⟩⟩
-- PartitionKernelModel.give
set_option maxRecDepth 100000 in
theorem dc_112 : ∀ en ∈ cd_112, decode prog_10_method_14_code en.1 = .ok (en.2.1, en.2.2.1 - en.1) := by decide +kernel
set_option maxRecDepth 100000 in
set_option maxHeartbeats 4000000 in
theorem ok_112 (cA : Nat → ClassId) : mq_okm pg_cl (pg_tys cA) (pg_E cA) pg_Z pg_sw pg_mx pg_X 112 cd_112 := ⟨by decide +kernel, by decide +kernel, mq_ok_of dc_112 ⟨⟨rfl, trivial⟩,
  ⟨rfl, trivial⟩,
  ⟨rfl, _, _, _, _, okc_7 cA _, (by decide : 42 < 44), gw_838 _, Or.inl rfl, ⟨rfl, rfl⟩⟩,
  ⟨rfl, trivial⟩,
  ⟨rfl, (by decide : Int32.ofInt 1 = 1)⟩,
  ⟨rfl, _, _, _, _, okc_7 cA _, (by decide : 43 < 44), gw_839 _, Or.inl rfl, ⟨rfl, rfl⟩⟩,
  ⟨rfl, (by decide : Int32.ofInt (-1) = (-1))⟩,
  ⟨rfl, Or.inr rfl⟩, trivial⟩⟩
-- PartitionKernelModel.loaded
set_option maxRecDepth 100000 in
theorem dc_113 : ∀ en ∈ cd_113, decode prog_10_method_15_code en.1 = .ok (en.2.1, en.2.2.1 - en.1) := by decide +kernel
set_option maxRecDepth 100000 in
set_option maxHeartbeats 4000000 in
theorem ok_113 (cA : Nat → ClassId) : mq_okm pg_cl (pg_tys cA) (pg_E cA) pg_Z pg_sw pg_mx pg_X 113 cd_113 := ⟨by decide +kernel, by decide +kernel, mq_ok_of dc_113 ⟨⟨rfl, trivial⟩,
  ⟨rfl, (by decide : Int32.ofInt 3 = 3)⟩,
  ⟨rfl, (by decide : ((2 : Nat) : Int) + 8 = ((10 : Nat) : Int))⟩,
  ⟨rfl, trivial⟩,
  ⟨rfl, (by decide : Int32.ofInt 5 = 5)⟩,
  ⟨rfl, (by decide : ((7 : Nat) : Int) + 5 = ((12 : Nat) : Int))⟩,
  ⟨rfl, (by decide : Int32.ofInt 0 = 0)⟩,
  ⟨rfl, Or.inr rfl⟩,
  ⟨rfl, (by decide : Int32.ofInt 1 = 1)⟩,
  ⟨rfl, trivial⟩,
  ⟨rfl, (by decide : Int32.ofInt 3 = 3)⟩,
  ⟨rfl, trivial⟩,
  ⟨rfl, trivial⟩,
  ⟨rfl, (by decide : 4 < 6)⟩,
  ⟨rfl, trivial⟩,
  ⟨rfl, trivial⟩,
  ⟨rfl, ⟨okg 107 _ gc_107, gw_52 _, Or.inl (gw_958 _), ⟨by decide +kernel, by decide +kernel, by decide +kernel⟩, by decide +kernel⟩, gw_959 _⟩,
  ⟨rfl, (by decide : ((25 : Nat) : Int) + 5 = ((30 : Nat) : Int))⟩,
  ⟨rfl, (by decide : Int32.ofInt 1 = 1)⟩,
  ⟨rfl, Or.inr rfl⟩,
  ⟨rfl, trivial⟩,
  ⟨rfl, trivial⟩,
  ⟨rfl, trivial⟩,
  ⟨rfl, trivial⟩,
  ⟨rfl, 3, _, rfl, ⟨okg 108 _ gc_108, gw_52 _, gw_1013 _, ⟨by decide +kernel, by decide +kernel, by decide +kernel⟩, by decide +kernel⟩, gw_1015 _, rfl, gw_26 _⟩,
  ⟨rfl, (by decide : 5 < 6)⟩,
  ⟨rfl, trivial⟩,
  ⟨rfl, trivial⟩,
  ⟨rfl, (by decide : ((42 : Nat) : Int) + 14 = ((56 : Nat) : Int))⟩,
  ⟨rfl, trivial⟩,
  ⟨rfl, (by decide : (Int8.ofInt 24).toInt32 = 24)⟩,
  ⟨rfl, trivial⟩,
  ⟨rfl, (by decide : (Int8.ofInt 24).toInt32 = 24)⟩,
  ⟨rfl, trivial⟩,
  ⟨rfl, (by decide : ((53 : Nat) : Int) + 21 = ((74 : Nat) : Int))⟩,
  ⟨rfl, trivial⟩,
  ⟨rfl, (by decide : Int32.ofInt 1 = 1)⟩,
  ⟨rfl, (by decide : ((58 : Nat) : Int) + 14 = ((72 : Nat) : Int))⟩,
  ⟨rfl, trivial⟩,
  ⟨rfl, (by decide : (Int8.ofInt 16).toInt32 = 16)⟩,
  ⟨rfl, trivial⟩,
  ⟨rfl, (by decide : (Int8.ofInt 16).toInt32 = 16)⟩,
  ⟨rfl, trivial⟩,
  ⟨rfl, (by decide : ((69 : Nat) : Int) + 5 = ((74 : Nat) : Int))⟩,
  ⟨rfl, trivial⟩,
  ⟨rfl, 1, _, rfl, ⟨okg 112 _ gc_112, gw_52 _, gw_1024 _, ⟨by decide +kernel, by decide +kernel, by decide +kernel⟩, by decide +kernel⟩, gw_1026 _, rfl, gw_28 _⟩,
  ⟨rfl, Or.inr rfl⟩, trivial⟩⟩
-- PartitionKernelModel.stored
set_option maxRecDepth 100000 in
theorem dc_114 : ∀ en ∈ cd_114, decode prog_10_method_16_code en.1 = .ok (en.2.1, en.2.2.1 - en.1) := by decide +kernel
set_option maxRecDepth 100000 in
set_option maxHeartbeats 4000000 in
theorem ok_114 (cA : Nat → ClassId) : mq_okm pg_cl (pg_tys cA) (pg_E cA) pg_Z pg_sw pg_mx pg_X 114 cd_114 := ⟨by decide +kernel, by decide +kernel, mq_ok_of dc_114 ⟨⟨rfl, trivial⟩,
  ⟨rfl, (by decide : Int32.ofInt 2 = 2)⟩,
  ⟨rfl, (by decide : ((2 : Nat) : Int) + 5 = ((7 : Nat) : Int))⟩,
  ⟨rfl, (by decide : Int32.ofInt 0 = 0)⟩,
  ⟨rfl, Or.inr rfl⟩,
  ⟨rfl, trivial⟩,
  ⟨rfl, (by decide : Int32.ofInt 1 = 1)⟩,
  ⟨rfl, trivial⟩,
  ⟨rfl, trivial⟩,
  ⟨rfl, ⟨okg 107 _ gc_107, gw_52 _, Or.inl (gw_958 _), ⟨by decide +kernel, by decide +kernel, by decide +kernel⟩, by decide +kernel⟩, gw_959 _⟩,
  ⟨rfl, (by decide : ((14 : Nat) : Int) + 5 = ((19 : Nat) : Int))⟩,
  ⟨rfl, (by decide : Int32.ofInt 1 = 1)⟩,
  ⟨rfl, Or.inr rfl⟩,
  ⟨rfl, trivial⟩,
  ⟨rfl, trivial⟩,
  ⟨rfl, trivial⟩,
  ⟨rfl, (by decide : Int32.ofInt 1 = 1)⟩,
  ⟨rfl, trivial⟩,
  ⟨rfl, trivial⟩,
  ⟨rfl, trivial⟩,
  ⟨rfl, 4, _, rfl, ⟨okg 109 _ gc_109, gw_52 _, gw_961 _, ⟨by decide +kernel, by decide +kernel, by decide +kernel⟩, by decide +kernel⟩, gw_963 _, rfl, gw_15 _⟩,
  ⟨rfl, (by decide : Int32.ofInt (-1) = (-1))⟩,
  ⟨rfl, Or.inr rfl⟩, trivial⟩⟩
-- PartitionKernelModel.holds
set_option maxRecDepth 100000 in
theorem dc_115 : ∀ en ∈ cd_115, decode prog_10_method_17_code en.1 = .ok (en.2.1, en.2.2.1 - en.1) := by decide +kernel
set_option maxRecDepth 100000 in
set_option maxHeartbeats 4000000 in
theorem ok_115 (cA : Nat → ClassId) : mq_okm pg_cl (pg_tys cA) (pg_E cA) pg_Z pg_sw pg_mx pg_X 115 cd_115 := ⟨by decide +kernel, by decide +kernel, mq_ok_of dc_115 ⟨⟨rfl, trivial⟩,
  ⟨by decide, by decide, by decide, by decide, by decide, by decide, by decide, by decide, by decide, by decide, by decide, by decide, by decide, by decide, by decide, by decide, trivial⟩,
  ⟨rfl, trivial⟩,
  ⟨rfl, trivial⟩,
  ⟨rfl, (by decide : ((46 : Nat) : Int) + 7 = ((53 : Nat) : Int))⟩,
  ⟨rfl, (by decide : Int32.ofInt 1 = 1)⟩,
  ⟨rfl, (by decide : ((50 : Nat) : Int) + 4 = ((54 : Nat) : Int))⟩,
  ⟨rfl, (by decide : Int32.ofInt 0 = 0)⟩,
  ⟨rfl, Or.inl ⟨rfl, rfl⟩⟩,
  ⟨rfl, trivial⟩,
  ⟨rfl, trivial⟩,
  ⟨rfl, (by decide : ((57 : Nat) : Int) + 7 = ((64 : Nat) : Int))⟩,
  ⟨rfl, (by decide : Int32.ofInt 1 = 1)⟩,
  ⟨rfl, (by decide : ((61 : Nat) : Int) + 4 = ((65 : Nat) : Int))⟩,
  ⟨rfl, (by decide : Int32.ofInt 0 = 0)⟩,
  ⟨rfl, Or.inl ⟨rfl, rfl⟩⟩,
  ⟨rfl, trivial⟩,
  ⟨rfl, trivial⟩,
  ⟨rfl, (by decide : ((68 : Nat) : Int) + 7 = ((75 : Nat) : Int))⟩,
  ⟨rfl, (by decide : Int32.ofInt 1 = 1)⟩,
  ⟨rfl, (by decide : ((72 : Nat) : Int) + 4 = ((76 : Nat) : Int))⟩,
  ⟨rfl, (by decide : Int32.ofInt 0 = 0)⟩,
  ⟨rfl, Or.inl ⟨rfl, rfl⟩⟩,
  ⟨rfl, trivial⟩,
  ⟨rfl, trivial⟩,
  ⟨rfl, (by decide : ((79 : Nat) : Int) + 7 = ((86 : Nat) : Int))⟩,
  ⟨rfl, (by decide : Int32.ofInt 1 = 1)⟩,
  ⟨rfl, (by decide : ((83 : Nat) : Int) + 4 = ((87 : Nat) : Int))⟩,
  ⟨rfl, (by decide : Int32.ofInt 0 = 0)⟩,
  ⟨rfl, Or.inl ⟨rfl, rfl⟩⟩,
  ⟨rfl, trivial⟩,
  ⟨rfl, trivial⟩,
  ⟨rfl, ⟨okg 111 _ gc_111, gw_52 _, Or.inl (gw_1035 _), ⟨by decide +kernel, by decide +kernel, by decide +kernel⟩, by decide +kernel⟩, gw_1036 _⟩,
  ⟨rfl, Or.inl ⟨rfl, rfl⟩⟩,
  ⟨rfl, trivial⟩,
  ⟨rfl, trivial⟩,
  ⟨rfl, ⟨okg 111 _ gc_111, gw_52 _, Or.inl (gw_1035 _), ⟨by decide +kernel, by decide +kernel, by decide +kernel⟩, by decide +kernel⟩, gw_1036 _⟩,
  ⟨rfl, (by decide : ((99 : Nat) : Int) + 7 = ((106 : Nat) : Int))⟩,
  ⟨rfl, (by decide : Int32.ofInt 1 = 1)⟩,
  ⟨rfl, (by decide : ((103 : Nat) : Int) + 4 = ((107 : Nat) : Int))⟩,
  ⟨rfl, (by decide : Int32.ofInt 0 = 0)⟩,
  ⟨rfl, Or.inl ⟨rfl, rfl⟩⟩, trivial⟩⟩
-- PartitionKernelModel.made
set_option maxRecDepth 100000 in
theorem dc_116 : ∀ en ∈ cd_116, decode prog_10_method_18_code en.1 = .ok (en.2.1, en.2.2.1 - en.1) := by decide +kernel
set_option maxRecDepth 100000 in
set_option maxHeartbeats 4000000 in
theorem ok_116 (cA : Nat → ClassId) : mq_okm pg_cl (pg_tys cA) (pg_E cA) pg_Z pg_sw pg_mx pg_X 116 cd_116 := ⟨by decide +kernel, by decide +kernel, mq_ok_of dc_116 ⟨⟨rfl, trivial⟩,
  ⟨by decide, by decide, by decide, by decide, by decide, by decide, by decide, by decide, by decide, by decide, by decide, by decide, by decide, by decide, by decide, by decide, trivial⟩,
  ⟨rfl, trivial⟩,
  ⟨rfl, (by decide : ((45 : Nat) : Int) + 9 = ((54 : Nat) : Int))⟩,
  ⟨rfl, trivial⟩,
  ⟨rfl, trivial⟩,
  ⟨rfl, trivial⟩,
  ⟨rfl, (by decide : ((51 : Nat) : Int) + 6 = ((57 : Nat) : Int))⟩,
  ⟨rfl, trivial⟩,
  ⟨rfl, trivial⟩,
  ⟨rfl, trivial⟩,
  ⟨rfl, Or.inr rfl⟩,
  ⟨rfl, trivial⟩,
  ⟨rfl, trivial⟩,
  ⟨rfl, (by decide : (Int8.ofInt 31).toInt32 = 31)⟩,
  ⟨rfl, trivial⟩,
  ⟨rfl, trivial⟩,
  ⟨rfl, Or.inr rfl⟩,
  ⟨rfl, trivial⟩,
  ⟨rfl, trivial⟩,
  ⟨rfl, (by decide : ((67 : Nat) : Int) + 7 = ((74 : Nat) : Int))⟩,
  ⟨rfl, (by decide : Int32.ofInt 1 = 1)⟩,
  ⟨rfl, (by decide : ((71 : Nat) : Int) + 4 = ((75 : Nat) : Int))⟩,
  ⟨rfl, (by decide : Int32.ofInt 0 = 0)⟩,
  ⟨rfl, Or.inr rfl⟩,
  ⟨rfl, trivial⟩,
  ⟨rfl, trivial⟩,
  ⟨rfl, ⟨okg 111 _ gc_111, gw_52 _, Or.inl (gw_1035 _), ⟨by decide +kernel, by decide +kernel, by decide +kernel⟩, by decide +kernel⟩, gw_1036 _⟩,
  ⟨rfl, (by decide : ((81 : Nat) : Int) + 7 = ((88 : Nat) : Int))⟩,
  ⟨rfl, (by decide : Int32.ofInt 1 = 1)⟩,
  ⟨rfl, (by decide : ((85 : Nat) : Int) + 4 = ((89 : Nat) : Int))⟩,
  ⟨rfl, (by decide : Int32.ofInt 0 = 0)⟩,
  ⟨rfl, Or.inr rfl⟩,
  ⟨rfl, trivial⟩,
  ⟨rfl, trivial⟩,
  ⟨rfl, trivial⟩,
  ⟨rfl, Or.inr rfl⟩,
  ⟨rfl, trivial⟩,
  ⟨rfl, (by decide : ((95 : Nat) : Int) + 12 = ((107 : Nat) : Int))⟩,
  ⟨rfl, trivial⟩,
  ⟨rfl, trivial⟩,
  ⟨rfl, (by decide : (Int8.ofInt 31).toInt32 = 31)⟩,
  ⟨rfl, trivial⟩,
  ⟨rfl, trivial⟩,
  ⟨rfl, (by decide : ((104 : Nat) : Int) + 9 = ((113 : Nat) : Int))⟩,
  ⟨rfl, trivial⟩,
  ⟨rfl, trivial⟩,
  ⟨rfl, (by decide : (Int8.ofInt 31).toInt32 = 31)⟩,
  ⟨rfl, trivial⟩,
  ⟨rfl, trivial⟩,
  ⟨rfl, Or.inr rfl⟩,
  ⟨rfl, trivial⟩,
  ⟨rfl, trivial⟩,
  ⟨rfl, trivial⟩,
  ⟨rfl, Or.inr rfl⟩,
  ⟨rfl, trivial⟩,
  ⟨rfl, trivial⟩,
  ⟨rfl, trivial⟩,
  ⟨rfl, Or.inr rfl⟩, trivial⟩⟩
end
section
/-! Rows of methods, by program. -/
-- PartitionKernelModel.jump
set_option maxRecDepth 100000 in
theorem dc_117 : ∀ en ∈ cd_117, decode prog_10_method_19_code en.1 = .ok (en.2.1, en.2.2.1 - en.1) := by decide +kernel
set_option maxRecDepth 100000 in
set_option maxHeartbeats 4000000 in
theorem ok_117 (cA : Nat → ClassId) : mq_okm pg_cl (pg_tys cA) (pg_E cA) pg_Z pg_sw pg_mx pg_X 117 cd_117 := ⟨by decide +kernel, by decide +kernel, mq_ok_of dc_117 ⟨⟨rfl, trivial⟩,
  ⟨rfl, (by decide : (Int8.ofInt 127).toInt32 = 127)⟩,
  ⟨rfl, trivial⟩,
  ⟨rfl, (by decide : 4 < 7)⟩,
  ⟨rfl, trivial⟩,
  ⟨rfl, _, _, _, _, okc_7 cA _, (by decide : 18 < 44), gw_814 _, trivial, ⟨rfl, Or.inr ⟨_, rfl⟩⟩⟩,
  ⟨rfl, trivial⟩,
  ⟨rfl, trivial⟩,
  ⟨rfl, (by decide : 5 < 7)⟩,
  ⟨rfl, trivial⟩,
  ⟨rfl, (by decide : (Int8.ofInt 111).toInt32 = 111)⟩,
  ⟨rfl, (by decide : ((18 : Nat) : Int) + 60 = ((78 : Nat) : Int))⟩,
  ⟨rfl, trivial⟩,
  ⟨rfl, trivial⟩,
  ⟨rfl, trivial⟩,
  ⟨rfl, (by decide : (Int8.ofInt 31).toInt32 = 31)⟩,
  ⟨rfl, trivial⟩,
  ⟨rfl, (by decide : (Int8.ofInt 20).toInt32 = 20)⟩,
  ⟨rfl, trivial⟩,
  ⟨rfl, trivial⟩,
  ⟨rfl, (by decide : (Int8.ofInt 12).toInt32 = 12)⟩,
  ⟨rfl, (by decide : (Int8.ofInt 8).toInt32 = 8)⟩,
  ⟨rfl, ⟨okg 110 _ gc_110, gw_52 _, Or.inl (gw_1021 _), ⟨by decide +kernel, by decide +kernel, by decide +kernel⟩, by decide +kernel⟩, gw_1022 _⟩,
  ⟨rfl, (by decide : (Int8.ofInt 12).toInt32 = 12)⟩,
  ⟨rfl, trivial⟩,
  ⟨rfl, trivial⟩,
  ⟨rfl, trivial⟩,
  ⟨rfl, (by decide : (Int8.ofInt 20).toInt32 = 20)⟩,
  ⟨rfl, (by decide : Int32.ofInt 1 = 1)⟩,
  ⟨rfl, ⟨okg 110 _ gc_110, gw_52 _, Or.inl (gw_1021 _), ⟨by decide +kernel, by decide +kernel, by decide +kernel⟩, by decide +kernel⟩, gw_1022 _⟩,
  ⟨rfl, (by decide : (Int8.ofInt 11).toInt32 = 11)⟩,
  ⟨rfl, trivial⟩,
  ⟨rfl, trivial⟩,
  ⟨rfl, trivial⟩,
  ⟨rfl, (by decide : (Int8.ofInt 21).toInt32 = 21)⟩,
  ⟨rfl, (by decide : (Int8.ofInt 10).toInt32 = 10)⟩,
  ⟨rfl, ⟨okg 110 _ gc_110, gw_52 _, Or.inl (gw_1021 _), ⟨by decide +kernel, by decide +kernel, by decide +kernel⟩, by decide +kernel⟩, gw_1022 _⟩,
  ⟨rfl, (by decide : Int32.ofInt 1 = 1)⟩,
  ⟨rfl, trivial⟩,
  ⟨rfl, trivial⟩,
  ⟨rfl, trivial⟩,
  ⟨rfl, _, _, _, _, okc_7 cA _, (by decide : 41 < 44), gw_837 _, Or.inl rfl, ⟨rfl, rfl⟩⟩,
  ⟨rfl, trivial⟩,
  ⟨rfl, trivial⟩,
  ⟨rfl, (by decide : Int32.ofInt 4 = 4)⟩,
  ⟨rfl, trivial⟩,
  ⟨rfl, 1, _, rfl, ⟨okg 112 _ gc_112, gw_52 _, gw_1024 _, ⟨by decide +kernel, by decide +kernel, by decide +kernel⟩, by decide +kernel⟩, gw_1026 _, rfl, gw_28 _⟩,
  ⟨rfl, Or.inr rfl⟩,
  ⟨rfl, trivial⟩,
  ⟨rfl, (by decide : (Int8.ofInt 103).toInt32 = 103)⟩,
  ⟨rfl, (by decide : ((82 : Nat) : Int) + 37 = ((119 : Nat) : Int))⟩,
  ⟨rfl, trivial⟩,
  ⟨rfl, (by decide : (Int8.ofInt 12).toInt32 = 12)⟩,
  ⟨rfl, (by decide : Int32.ofInt 3 = 3)⟩,
  ⟨rfl, ⟨okg 110 _ gc_110, gw_52 _, Or.inl (gw_1021 _), ⟨by decide +kernel, by decide +kernel, by decide +kernel⟩, by decide +kernel⟩, gw_1022 _⟩,
  ⟨rfl, (by decide : ((92 : Nat) : Int) + 5 = ((97 : Nat) : Int))⟩,
  ⟨rfl, (by decide : Int32.ofInt 0 = 0)⟩,
  ⟨rfl, Or.inr rfl⟩,
  ⟨rfl, trivial⟩,
  ⟨rfl, trivial⟩,
  ⟨rfl, trivial⟩,
  ⟨rfl, (by decide : (Int8.ofInt 20).toInt32 = 20)⟩,
  ⟨rfl, trivial⟩,
  ⟨rfl, trivial⟩,
  ⟨rfl, (by decide : (Int8.ofInt (-2)).toInt32 = (-2))⟩,
  ⟨rfl, trivial⟩,
  ⟨rfl, _, _, _, _, okc_7 cA _, (by decide : 41 < 44), gw_837 _, Or.inl rfl, ⟨rfl, rfl⟩⟩,
  ⟨rfl, trivial⟩,
  ⟨rfl, trivial⟩,
  ⟨rfl, (by decide : Int32.ofInt 4 = 4)⟩,
  ⟨rfl, trivial⟩,
  ⟨rfl, 1, _, rfl, ⟨okg 112 _ gc_112, gw_52 _, gw_1024 _, ⟨by decide +kernel, by decide +kernel, by decide +kernel⟩, by decide +kernel⟩, gw_1026 _, rfl, gw_28 _⟩,
  ⟨rfl, Or.inr rfl⟩,
  ⟨rfl, trivial⟩,
  ⟨rfl, (by decide : (Int8.ofInt 12).toInt32 = 12)⟩,
  ⟨rfl, (by decide : Int32.ofInt 3 = 3)⟩,
  ⟨rfl, ⟨okg 110 _ gc_110, gw_52 _, Or.inl (gw_1021 _), ⟨by decide +kernel, by decide +kernel, by decide +kernel⟩, by decide +kernel⟩, gw_1022 _⟩,
  ⟨rfl, (by decide : 6 < 7)⟩,
  ⟨rfl, trivial⟩,
  ⟨rfl, (by decide : Int32.ofInt 2 = 2)⟩,
  ⟨rfl, (by decide : ((131 : Nat) : Int) + 9 = ((140 : Nat) : Int))⟩,
  ⟨rfl, trivial⟩,
  ⟨rfl, (by decide : Int32.ofInt 3 = 3)⟩,
  ⟨rfl, (by decide : ((137 : Nat) : Int) + 5 = ((142 : Nat) : Int))⟩,
  ⟨rfl, (by decide : Int32.ofInt 0 = 0)⟩,
  ⟨rfl, Or.inr rfl⟩,
  ⟨rfl, trivial⟩,
  ⟨rfl, trivial⟩,
  ⟨rfl, trivial⟩,
  ⟨rfl, _, _, _, _, okc_7 cA _, (by decide : 26 < 44), gw_822 _, trivial, ⟨rfl, Or.inr ⟨_, rfl⟩⟩⟩,
  ⟨rfl, (by decide : (Int8.ofInt 32).toInt32 = 32)⟩,
  ⟨rfl, trivial⟩,
  ⟨rfl, trivial⟩,
  ⟨rfl, trivial⟩,
  ⟨rfl, (by decide : (Int8.ofInt 20).toInt32 = 20)⟩,
  ⟨rfl, (by decide : Int32.ofInt 5 = 5)⟩,
  ⟨rfl, ⟨okg 110 _ gc_110, gw_52 _, Or.inl (gw_1021 _), ⟨by decide +kernel, by decide +kernel, by decide +kernel⟩, by decide +kernel⟩, gw_1022 _⟩,
  ⟨rfl, trivial⟩,
  ⟨rfl, trivial⟩,
  ⟨rfl, ⟨okg 115 _ gc_115, gw_52 _, Or.inl (gw_1032 _), ⟨by decide +kernel, by decide +kernel, by decide +kernel⟩, by decide +kernel⟩, gw_1033 _⟩,
  ⟨rfl, (by decide : ((165 : Nat) : Int) + 49 = ((214 : Nat) : Int))⟩,
  ⟨rfl, trivial⟩,
  ⟨rfl, trivial⟩,
  ⟨rfl, trivial⟩,
  ⟨rfl, (by decide : (Int8.ofInt 31).toInt32 = 31)⟩,
  ⟨rfl, trivial⟩,
  ⟨rfl, (by decide : (Int8.ofInt 12).toInt32 = 12)⟩,
  ⟨rfl, trivial⟩,
  ⟨rfl, trivial⟩,
  ⟨rfl, (by decide : (Int8.ofInt 7).toInt32 = 7)⟩,
  ⟨rfl, (by decide : Int32.ofInt 1 = 1)⟩,
  ⟨rfl, ⟨okg 110 _ gc_110, gw_52 _, Or.inl (gw_1021 _), ⟨by decide +kernel, by decide +kernel, by decide +kernel⟩, by decide +kernel⟩, gw_1022 _⟩,
  ⟨rfl, (by decide : (Int8.ofInt 11).toInt32 = 11)⟩,
  ⟨rfl, trivial⟩,
  ⟨rfl, trivial⟩,
  ⟨rfl, trivial⟩,
  ⟨rfl, (by decide : (Int8.ofInt 25).toInt32 = 25)⟩,
  ⟨rfl, (by decide : (Int8.ofInt 6).toInt32 = 6)⟩,
  ⟨rfl, ⟨okg 110 _ gc_110, gw_52 _, Or.inl (gw_1021 _), ⟨by decide +kernel, by decide +kernel, by decide +kernel⟩, by decide +kernel⟩, gw_1022 _⟩,
  ⟨rfl, (by decide : Int32.ofInt 5 = 5)⟩,
  ⟨rfl, trivial⟩,
  ⟨rfl, trivial⟩,
  ⟨rfl, trivial⟩,
  ⟨rfl, (by decide : (Int8.ofInt 8).toInt32 = 8)⟩,
  ⟨rfl, (by decide : Int32.ofInt 4 = 4)⟩,
  ⟨rfl, ⟨okg 110 _ gc_110, gw_52 _, Or.inl (gw_1021 _), ⟨by decide +kernel, by decide +kernel, by decide +kernel⟩, by decide +kernel⟩, gw_1022 _⟩,
  ⟨rfl, (by decide : Int32.ofInt 1 = 1)⟩,
  ⟨rfl, trivial⟩,
  ⟨rfl, trivial⟩,
  ⟨rfl, trivial⟩,
  ⟨rfl, _, _, _, _, okc_7 cA _, (by decide : 41 < 44), gw_837 _, Or.inl rfl, ⟨rfl, rfl⟩⟩,
  ⟨rfl, (by decide : Int32.ofInt (-1) = (-1))⟩,
  ⟨rfl, Or.inr rfl⟩, trivial⟩⟩
-- PartitionKernelModel.reckon
set_option maxRecDepth 100000 in
theorem dc_118 : ∀ en ∈ cd_118, decode prog_10_method_20_code en.1 = .ok (en.2.1, en.2.2.1 - en.1) := by decide +kernel
set_option maxRecDepth 100000 in
set_option maxHeartbeats 4000000 in
theorem ok_118 (cA : Nat → ClassId) : mq_okm pg_cl (pg_tys cA) (pg_E cA) pg_Z pg_sw pg_mx pg_X 118 cd_118 := ⟨by decide +kernel, by decide +kernel, mq_ok_of dc_118 ⟨⟨rfl, trivial⟩,
  ⟨rfl, (by decide : (Int8.ofInt 12).toInt32 = 12)⟩,
  ⟨rfl, (by decide : Int32.ofInt 3 = 3)⟩,
  ⟨rfl, ⟨okg 110 _ gc_110, gw_52 _, Or.inl (gw_1021 _), ⟨by decide +kernel, by decide +kernel, by decide +kernel⟩, by decide +kernel⟩, gw_1022 _⟩,
  ⟨rfl, (by decide : 4 < 6)⟩,
  ⟨rfl, trivial⟩,
  ⟨rfl, (by decide : (Int8.ofInt 25).toInt32 = 25)⟩,
  ⟨rfl, (by decide : (Int8.ofInt 7).toInt32 = 7)⟩,
  ⟨rfl, ⟨okg 110 _ gc_110, gw_52 _, Or.inl (gw_1021 _), ⟨by decide +kernel, by decide +kernel, by decide +kernel⟩, by decide +kernel⟩, gw_1022 _⟩,
  ⟨rfl, (by decide : 5 < 6)⟩,
  ⟨rfl, trivial⟩,
  ⟨rfl, (by decide : (Int8.ofInt 127).toInt32 = 127)⟩,
  ⟨rfl, trivial⟩,
  ⟨rfl, (by decide : (Int8.ofInt 51).toInt32 = 51)⟩,
  ⟨rfl, (by decide : ((25 : Nat) : Int) + 52 = ((77 : Nat) : Int))⟩,
  ⟨rfl, trivial⟩,
  ⟨rfl, (by decide : ((30 : Nat) : Int) + 23 = ((53 : Nat) : Int))⟩,
  ⟨rfl, trivial⟩,
  ⟨rfl, (by decide : (Int8.ofInt 32).toInt32 = 32)⟩,
  ⟨rfl, (by decide : ((37 : Nat) : Int) + 14 = ((51 : Nat) : Int))⟩,
  ⟨rfl, trivial⟩,
  ⟨rfl, (by decide : ((42 : Nat) : Int) + 11 = ((53 : Nat) : Int))⟩,
  ⟨rfl, trivial⟩,
  ⟨rfl, (by decide : Int32.ofInt 5 = 5)⟩,
  ⟨rfl, (by decide : ((48 : Nat) : Int) + 5 = ((53 : Nat) : Int))⟩,
  ⟨rfl, (by decide : Int32.ofInt 0 = 0)⟩,
  ⟨rfl, Or.inr rfl⟩,
  ⟨rfl, trivial⟩,
  ⟨rfl, trivial⟩,
  ⟨rfl, trivial⟩,
  ⟨rfl, trivial⟩,
  ⟨rfl, trivial⟩,
  ⟨rfl, (by decide : (Int8.ofInt 32).toInt32 = 32)⟩,
  ⟨rfl, (by decide : ((62 : Nat) : Int) + 7 = ((69 : Nat) : Int))⟩,
  ⟨rfl, (by decide : Int32.ofInt 1 = 1)⟩,
  ⟨rfl, (by decide : ((66 : Nat) : Int) + 4 = ((70 : Nat) : Int))⟩,
  ⟨rfl, (by decide : Int32.ofInt 0 = 0)⟩,
  ⟨rfl, ⟨okg 116 _ gc_116, gw_52 _, Or.inl (gw_1051 _), ⟨by decide +kernel, by decide +kernel, by decide +kernel⟩, by decide +kernel⟩, gw_1052 _⟩,
  ⟨rfl, 1, _, rfl, ⟨okg 112 _ gc_112, gw_52 _, gw_1024 _, ⟨by decide +kernel, by decide +kernel, by decide +kernel⟩, by decide +kernel⟩, gw_1026 _, rfl, gw_28 _⟩,
  ⟨rfl, Or.inr rfl⟩,
  ⟨rfl, trivial⟩,
  ⟨rfl, (by decide : Int32.ofInt 1 = 1)⟩,
  ⟨rfl, (by decide : ((80 : Nat) : Int) + 8 = ((88 : Nat) : Int))⟩,
  ⟨rfl, trivial⟩,
  ⟨rfl, (by decide : ((85 : Nat) : Int) + 21 = ((106 : Nat) : Int))⟩,
  ⟨rfl, trivial⟩,
  ⟨rfl, (by decide : Int32.ofInt 5 = 5)⟩,
  ⟨rfl, (by decide : ((91 : Nat) : Int) + 17 = ((108 : Nat) : Int))⟩,
  ⟨rfl, trivial⟩,
  ⟨rfl, (by decide : ((96 : Nat) : Int) + 12 = ((108 : Nat) : Int))⟩,
  ⟨rfl, trivial⟩,
  ⟨rfl, (by decide : (Int8.ofInt 32).toInt32 = 32)⟩,
  ⟨rfl, (by decide : ((103 : Nat) : Int) + 5 = ((108 : Nat) : Int))⟩,
  ⟨rfl, (by decide : Int32.ofInt 0 = 0)⟩,
  ⟨rfl, Or.inr rfl⟩,
  ⟨rfl, trivial⟩,
  ⟨rfl, trivial⟩,
  ⟨rfl, trivial⟩,
  ⟨rfl, trivial⟩,
  ⟨rfl, (by decide : (Int8.ofInt 20).toInt32 = 20)⟩,
  ⟨rfl, trivial⟩,
  ⟨rfl, trivial⟩,
  ⟨rfl, (by decide : Int32.ofInt 5 = 5)⟩,
  ⟨rfl, (by decide : ((119 : Nat) : Int) + 14 = ((133 : Nat) : Int))⟩,
  ⟨rfl, trivial⟩,
  ⟨rfl, (by decide : (Int8.ofInt 32).toInt32 = 32)⟩,
  ⟨rfl, (by decide : ((126 : Nat) : Int) + 7 = ((133 : Nat) : Int))⟩,
  ⟨rfl, (by decide : Int32.ofInt 1 = 1)⟩,
  ⟨rfl, (by decide : ((130 : Nat) : Int) + 4 = ((134 : Nat) : Int))⟩,
  ⟨rfl, (by decide : Int32.ofInt 0 = 0)⟩,
  ⟨rfl, ⟨okg 116 _ gc_116, gw_52 _, Or.inl (gw_1051 _), ⟨by decide +kernel, by decide +kernel, by decide +kernel⟩, by decide +kernel⟩, gw_1052 _⟩,
  ⟨rfl, 1, _, rfl, ⟨okg 112 _ gc_112, gw_52 _, gw_1024 _, ⟨by decide +kernel, by decide +kernel, by decide +kernel⟩, by decide +kernel⟩, gw_1026 _, rfl, gw_28 _⟩,
  ⟨rfl, Or.inr rfl⟩, trivial⟩⟩
-- PartitionKernelModel.instruct
set_option maxRecDepth 100000 in
theorem dc_119 : ∀ en ∈ cd_119, decode prog_10_method_21_code en.1 = .ok (en.2.1, en.2.2.1 - en.1) := by decide +kernel
set_option maxRecDepth 100000 in
set_option maxHeartbeats 4000000 in
theorem ok_119 (cA : Nat → ClassId) : mq_okm pg_cl (pg_tys cA) (pg_E cA) pg_Z pg_sw pg_mx pg_X 119 cd_119 := ⟨by decide +kernel, by decide +kernel, mq_ok_of dc_119 ⟨⟨rfl, trivial⟩,
  ⟨rfl, _, _, _, _, okc_7 cA _, (by decide : 18 < 44), gw_814 _, trivial, ⟨rfl, Or.inr ⟨_, rfl⟩⟩⟩,
  ⟨rfl, trivial⟩,
  ⟨rfl, trivial⟩,
  ⟨rfl, (by decide : Int32.ofInt 4 = 4)⟩,
  ⟨rfl, ⟨okg 107 _ gc_107, gw_52 _, Or.inl (gw_958 _), ⟨by decide +kernel, by decide +kernel, by decide +kernel⟩, by decide +kernel⟩, gw_959 _⟩,
  ⟨rfl, (by decide : ((10 : Nat) : Int) + 5 = ((15 : Nat) : Int))⟩,
  ⟨rfl, (by decide : Int32.ofInt 1 = 1)⟩,
  ⟨rfl, Or.inr rfl⟩,
  ⟨rfl, trivial⟩,
  ⟨rfl, trivial⟩,
  ⟨rfl, trivial⟩,
  ⟨rfl, _, _, _, _, okc_7 cA _, (by decide : 18 < 44), gw_814 _, trivial, ⟨rfl, Or.inr ⟨_, rfl⟩⟩⟩,
  ⟨rfl, trivial⟩,
  ⟨rfl, trivial⟩,
  ⟨rfl, (by decide : Int32.ofInt 4 = 4)⟩,
  ⟨rfl, 3, _, rfl, ⟨okg 108 _ gc_108, gw_52 _, gw_1013 _, ⟨by decide +kernel, by decide +kernel, by decide +kernel⟩, by decide +kernel⟩, gw_1015 _, rfl, gw_26 _⟩,
  ⟨rfl, (by decide : 3 < 6)⟩,
  ⟨rfl, trivial⟩,
  ⟨rfl, _, _, _, _, okc_7 cA _, (by decide : 26 < 44), gw_822 _, trivial, ⟨rfl, Or.inr ⟨_, rfl⟩⟩⟩,
  ⟨rfl, (by decide : (Int8.ofInt 32).toInt32 = 32)⟩,
  ⟨rfl, trivial⟩,
  ⟨rfl, trivial⟩,
  ⟨rfl, trivial⟩,
  ⟨rfl, (by decide : (Int8.ofInt 15).toInt32 = 15)⟩,
  ⟨rfl, (by decide : Int32.ofInt 5 = 5)⟩,
  ⟨rfl, ⟨okg 110 _ gc_110, gw_52 _, Or.inl (gw_1021 _), ⟨by decide +kernel, by decide +kernel, by decide +kernel⟩, by decide +kernel⟩, gw_1022 _⟩,
  ⟨rfl, trivial⟩,
  ⟨rfl, trivial⟩,
  ⟨rfl, (by decide : 4 < 6)⟩,
  ⟨rfl, trivial⟩,
  ⟨rfl, _, _, _, _, okc_7 cA _, (by decide : 26 < 44), gw_822 _, trivial, ⟨rfl, Or.inr ⟨_, rfl⟩⟩⟩,
  ⟨rfl, (by decide : (Int8.ofInt 32).toInt32 = 32)⟩,
  ⟨rfl, trivial⟩,
  ⟨rfl, trivial⟩,
  ⟨rfl, trivial⟩,
  ⟨rfl, (by decide : (Int8.ofInt 20).toInt32 = 20)⟩,
  ⟨rfl, (by decide : Int32.ofInt 5 = 5)⟩,
  ⟨rfl, ⟨okg 110 _ gc_110, gw_52 _, Or.inl (gw_1021 _), ⟨by decide +kernel, by decide +kernel, by decide +kernel⟩, by decide +kernel⟩, gw_1022 _⟩,
  ⟨rfl, trivial⟩,
  ⟨rfl, trivial⟩,
  ⟨rfl, (by decide : 5 < 6)⟩,
  ⟨rfl, trivial⟩,
  ⟨rfl, trivial⟩,
  ⟨rfl, _, _, _, _, okc_7 cA _, (by decide : 18 < 44), gw_814 _, trivial, ⟨rfl, Or.inr ⟨_, rfl⟩⟩⟩,
  ⟨rfl, trivial⟩,
  ⟨rfl, trivial⟩,
  ⟨rfl, (by decide : Int32.ofInt 4 = 4)⟩,
  ⟨rfl, trivial⟩,
  ⟨rfl, _, _, _, _, okc_7 cA _, (by decide : 41 < 44), gw_837 _, Or.inl rfl, ⟨rfl, rfl⟩⟩,
  ⟨rfl, trivial⟩,
  ⟨rfl, (by decide : Int32.ofInt 0 = 0)⟩,
  ⟨rfl, _, _, _, _, okc_7 cA _, (by decide : 43 < 44), gw_839 _, Or.inl rfl, ⟨rfl, rfl⟩⟩,
  ⟨rfl, trivial⟩,
  ⟨rfl, (by decide : (Int8.ofInt 127).toInt32 = 127)⟩,
  ⟨rfl, trivial⟩,
  ⟨by decide, by decide, by decide, by decide, by decide, by decide, by decide, by decide, by decide, by decide, by decide, by decide, by decide, by decide, by decide, by decide, by decide, by decide, by decide, by decide, by decide, by decide, trivial⟩,
  ⟨rfl, trivial⟩,
  ⟨rfl, trivial⟩,
  ⟨rfl, (by decide : (Int16.ofInt (-4096)).toInt32 = (-4096))⟩,
  ⟨rfl, trivial⟩,
  ⟨rfl, 1, _, rfl, ⟨okg 112 _ gc_112, gw_52 _, gw_1024 _, ⟨by decide +kernel, by decide +kernel, by decide +kernel⟩, by decide +kernel⟩, gw_1026 _, rfl, gw_28 _⟩,
  ⟨rfl, Or.inr rfl⟩,
  ⟨rfl, trivial⟩,
  ⟨rfl, trivial⟩,
  ⟨rfl, _, _, _, _, okc_7 cA _, (by decide : 18 < 44), gw_814 _, trivial, ⟨rfl, Or.inr ⟨_, rfl⟩⟩⟩,
  ⟨rfl, trivial⟩,
  ⟨rfl, trivial⟩,
  ⟨rfl, trivial⟩,
  ⟨rfl, (by decide : (Int16.ofInt (-4096)).toInt32 = (-4096))⟩,
  ⟨rfl, trivial⟩,
  ⟨rfl, trivial⟩,
  ⟨rfl, 1, _, rfl, ⟨okg 112 _ gc_112, gw_52 _, gw_1024 _, ⟨by decide +kernel, by decide +kernel, by decide +kernel⟩, by decide +kernel⟩, gw_1026 _, rfl, gw_28 _⟩,
  ⟨rfl, Or.inr rfl⟩,
  ⟨rfl, trivial⟩,
  ⟨rfl, trivial⟩,
  ⟨rfl, trivial⟩,
  ⟨rfl, trivial⟩,
  ⟨rfl, 3, _, rfl, ⟨okg 117 _ gc_117, gw_52 _, gw_1028 _, ⟨by decide +kernel, by decide +kernel, by decide +kernel⟩, by decide +kernel⟩, gw_1030 _, rfl, gw_29 _⟩,
  ⟨rfl, Or.inr rfl⟩,
  ⟨rfl, trivial⟩,
  ⟨rfl, trivial⟩,
  ⟨rfl, trivial⟩,
  ⟨rfl, (by decide : (Int8.ofInt 12).toInt32 = 12)⟩,
  ⟨rfl, (by decide : Int32.ofInt 3 = 3)⟩,
  ⟨rfl, ⟨okg 110 _ gc_110, gw_52 _, Or.inl (gw_1021 _), ⟨by decide +kernel, by decide +kernel, by decide +kernel⟩, by decide +kernel⟩, gw_1022 _⟩,
  ⟨rfl, trivial⟩,
  ⟨rfl, trivial⟩,
  ⟨rfl, (by decide : (Int8.ofInt 20).toInt32 = 20)⟩,
  ⟨rfl, trivial⟩,
  ⟨rfl, trivial⟩,
  ⟨rfl, 3, _, rfl, ⟨okg 113 _ gc_113, gw_52 _, gw_1039 _, ⟨by decide +kernel, by decide +kernel, by decide +kernel⟩, by decide +kernel⟩, gw_1041 _, rfl, gw_30 _⟩,
  ⟨rfl, Or.inr rfl⟩,
  ⟨rfl, trivial⟩,
  ⟨rfl, trivial⟩,
  ⟨rfl, trivial⟩,
  ⟨rfl, (by decide : (Int8.ofInt 12).toInt32 = 12)⟩,
  ⟨rfl, (by decide : Int32.ofInt 3 = 3)⟩,
  ⟨rfl, ⟨okg 110 _ gc_110, gw_52 _, Or.inl (gw_1021 _), ⟨by decide +kernel, by decide +kernel, by decide +kernel⟩, by decide +kernel⟩, gw_1022 _⟩,
  ⟨rfl, trivial⟩,
  ⟨rfl, trivial⟩,
  ⟨rfl, (by decide : (Int8.ofInt 25).toInt32 = 25)⟩,
  ⟨rfl, trivial⟩,
  ⟨rfl, (by decide : Int32.ofInt 5 = 5)⟩,
  ⟨rfl, trivial⟩,
  ⟨rfl, trivial⟩,
  ⟨rfl, (by decide : (Int8.ofInt 7).toInt32 = 7)⟩,
  ⟨rfl, (by decide : Int32.ofInt 5 = 5)⟩,
  ⟨rfl, ⟨okg 110 _ gc_110, gw_52 _, Or.inl (gw_1021 _), ⟨by decide +kernel, by decide +kernel, by decide +kernel⟩, by decide +kernel⟩, gw_1022 _⟩,
  ⟨rfl, trivial⟩,
  ⟨rfl, trivial⟩,
  ⟨rfl, trivial⟩,
  ⟨rfl, 4, _, rfl, ⟨okg 114 _ gc_114, gw_52 _, gw_1043 _, ⟨by decide +kernel, by decide +kernel, by decide +kernel⟩, by decide +kernel⟩, gw_1045 _, rfl, gw_31 _⟩,
  ⟨rfl, Or.inr rfl⟩,
  ⟨rfl, trivial⟩,
  ⟨rfl, trivial⟩,
  ⟨rfl, trivial⟩,
  ⟨rfl, trivial⟩,
  ⟨rfl, 3, _, rfl, ⟨okg 118 _ gc_118, gw_52 _, gw_1047 _, ⟨by decide +kernel, by decide +kernel, by decide +kernel⟩, by decide +kernel⟩, gw_1049 _, rfl, gw_32 _⟩,
  ⟨rfl, Or.inr rfl⟩,
  ⟨rfl, trivial⟩,
  ⟨rfl, (by decide : (Int8.ofInt 115).toInt32 = 115)⟩,
  ⟨rfl, (by decide : ((277 : Nat) : Int) + 12 = ((289 : Nat) : Int))⟩,
  ⟨rfl, trivial⟩,
  ⟨rfl, trivial⟩,
  ⟨rfl, trivial⟩,
  ⟨rfl, 2, _, rfl, ⟨okg 129 _ gc_129, gw_52 _, gw_1054 _, ⟨by decide +kernel, by decide +kernel, by decide +kernel⟩, by decide +kernel⟩, gw_1056 _, rfl, gw_33 _⟩,
  ⟨rfl, (by decide : ((286 : Nat) : Int) + 4 = ((290 : Nat) : Int))⟩,
  ⟨rfl, (by decide : Int32.ofInt 0 = 0)⟩,
  ⟨rfl, Or.inr rfl⟩,
  ⟨rfl, (by decide : Int32.ofInt 0 = 0)⟩,
  ⟨rfl, Or.inr rfl⟩, trivial⟩⟩
-- PartitionKernelModel.timed
set_option maxRecDepth 100000 in
theorem dc_120 : ∀ en ∈ cd_120, decode prog_10_method_23_code en.1 = .ok (en.2.1, en.2.2.1 - en.1) := by decide +kernel
set_option maxRecDepth 100000 in
set_option maxHeartbeats 4000000 in
theorem ok_120 (cA : Nat → ClassId) : mq_okm pg_cl (pg_tys cA) (pg_E cA) pg_Z pg_sw pg_mx pg_X 120 cd_120 := ⟨by decide +kernel, by decide +kernel, mq_ok_of dc_120 ⟨⟨rfl, trivial⟩,
  ⟨rfl, _, _, _, _, okc_7 cA _, (by decide : 19 < 44), gw_815 _, trivial, ⟨rfl, Or.inr ⟨_, rfl⟩⟩⟩,
  ⟨rfl, trivial⟩,
  ⟨rfl, (by decide : Int32.ofInt 2 = 2)⟩,
  ⟨rfl, trivial⟩,
  ⟨rfl, trivial⟩,
  ⟨rfl, _, _, _, _, okc_7 cA _, (by decide : 21 < 44), gw_817 _, trivial, ⟨rfl, Or.inr ⟨_, rfl⟩⟩⟩,
  ⟨rfl, trivial⟩,
  ⟨rfl, trivial⟩,
  ⟨rfl, trivial⟩,
  ⟨rfl, rfl⟩, trivial⟩⟩
-- PartitionKernelModel.periodic
set_option maxRecDepth 100000 in
theorem dc_121 : ∀ en ∈ cd_121, decode prog_10_method_24_code en.1 = .ok (en.2.1, en.2.2.1 - en.1) := by decide +kernel
set_option maxRecDepth 100000 in
set_option maxHeartbeats 4000000 in
theorem ok_121 (cA : Nat → ClassId) : mq_okm pg_cl (pg_tys cA) (pg_E cA) pg_Z pg_sw pg_mx pg_X 121 cd_121 := ⟨by decide +kernel, by decide +kernel, mq_ok_of dc_121 ⟨⟨rfl, trivial⟩,
  ⟨rfl, _, _, _, _, okc_7 cA _, (by decide : 16 < 44), gw_812 _, trivial, ⟨rfl, Or.inr ⟨_, rfl⟩⟩⟩,
  ⟨rfl, trivial⟩,
  ⟨rfl, trivial⟩,
  ⟨rfl, (by decide : ((6 : Nat) : Int) + 5 = ((11 : Nat) : Int))⟩,
  ⟨rfl, (by decide : Int32.ofInt 1 = 1)⟩,
  ⟨rfl, Or.inr rfl⟩,
  ⟨rfl, trivial⟩,
  ⟨rfl, _, _, _, _, okc_7 cA _, (by decide : 25 < 44), gw_821 _, trivial, ⟨rfl, Or.inr ⟨_, rfl⟩⟩⟩,
  ⟨rfl, trivial⟩,
  ⟨rfl, trivial⟩,
  ⟨rfl, trivial⟩,
  ⟨rfl, trivial⟩,
  ⟨rfl, _, _, _, _, okc_7 cA _, (by decide : 16 < 44), gw_812 _, trivial, ⟨rfl, Or.inr ⟨_, rfl⟩⟩⟩,
  ⟨rfl, trivial⟩,
  ⟨rfl, trivial⟩,
  ⟨rfl, trivial⟩,
  ⟨rfl, trivial⟩,
  ⟨rfl, trivial⟩,
  ⟨rfl, trivial⟩,
  ⟨rfl, trivial⟩,
  ⟨rfl, _, _, _, _, okc_7 cA _, (by decide : 25 < 44), gw_821 _, trivial, ⟨rfl, Or.inr ⟨_, rfl⟩⟩⟩,
  ⟨rfl, trivial⟩,
  ⟨rfl, trivial⟩,
  ⟨rfl, 2, _, rfl, ⟨okg 120 _ gc_120, gw_52 _, gw_1062 _, ⟨by decide +kernel, by decide +kernel, by decide +kernel⟩, by decide +kernel⟩, gw_1064 _, rfl, gw_35 _⟩,
  ⟨rfl, trivial⟩,
  ⟨rfl, _, _, _, _, okc_7 cA _, (by decide : 17 < 44), gw_813 _, trivial, ⟨rfl, Or.inr ⟨_, rfl⟩⟩⟩,
  ⟨rfl, trivial⟩,
  ⟨rfl, trivial⟩,
  ⟨rfl, (by decide : ((43 : Nat) : Int) + 22 = ((65 : Nat) : Int))⟩,
  ⟨rfl, trivial⟩,
  ⟨rfl, _, _, _, _, okc_7 cA _, (by decide : 20 < 44), gw_816 _, trivial, ⟨rfl, Or.inr ⟨_, rfl⟩⟩⟩,
  ⟨rfl, trivial⟩,
  ⟨rfl, trivial⟩,
  ⟨rfl, _, _, _, _, okc_7 cA _, (by decide : 25 < 44), gw_821 _, trivial, ⟨rfl, Or.inr ⟨_, rfl⟩⟩⟩,
  ⟨rfl, trivial⟩,
  ⟨rfl, trivial⟩,
  ⟨rfl, trivial⟩,
  ⟨rfl, _, _, _, _, okc_7 cA _, (by decide : 17 < 44), gw_813 _, trivial, ⟨rfl, Or.inr ⟨_, rfl⟩⟩⟩,
  ⟨rfl, trivial⟩,
  ⟨rfl, trivial⟩,
  ⟨rfl, trivial⟩,
  ⟨rfl, trivial⟩,
  ⟨rfl, (by decide : Int32.ofInt 0 = 0)⟩,
  ⟨rfl, Or.inr rfl⟩, trivial⟩⟩
-- PartitionKernelModel.sleepFor
set_option maxRecDepth 100000 in
theorem dc_122 : ∀ en ∈ cd_122, decode prog_10_method_25_code en.1 = .ok (en.2.1, en.2.2.1 - en.1) := by decide +kernel
set_option maxRecDepth 100000 in
set_option maxHeartbeats 4000000 in
theorem ok_122 (cA : Nat → ClassId) : mq_okm pg_cl (pg_tys cA) (pg_E cA) pg_Z pg_sw pg_mx pg_X 122 cd_122 := ⟨by decide +kernel, by decide +kernel, mq_ok_of dc_122 ⟨⟨rfl, trivial⟩,
  ⟨rfl, gw_945 _⟩,
  ⟨rfl, ⟨okg 101 _ gc_101, gw_52 _, Or.inl (gw_938 _), ⟨by decide +kernel, by decide +kernel, by decide +kernel⟩, by decide +kernel⟩, gw_939 _⟩,
  ⟨rfl, (by decide : ((6 : Nat) : Int) + 5 = ((11 : Nat) : Int))⟩,
  ⟨rfl, (by decide : Int32.ofInt 1 = 1)⟩,
  ⟨rfl, Or.inr rfl⟩,
  ⟨rfl, trivial⟩,
  ⟨rfl, trivial⟩,
  ⟨rfl, trivial⟩,
  ⟨rfl, _, _, _, _, okc_7 cA _, (by decide : 2 < 44), gw_798 _, trivial, ⟨rfl, rfl⟩⟩,
  ⟨rfl, trivial⟩,
  ⟨rfl, trivial⟩,
  ⟨rfl, 2, _, rfl, ⟨okg 120 _ gc_120, gw_52 _, gw_1062 _, ⟨by decide +kernel, by decide +kernel, by decide +kernel⟩, by decide +kernel⟩, gw_1064 _, rfl, gw_35 _⟩,
  ⟨rfl, (by decide : Int32.ofInt 0 = 0)⟩,
  ⟨rfl, Or.inr rfl⟩, trivial⟩⟩
end
section
/-! Rows of methods, by program. -/
-- PartitionKernelModel.startOther
set_option maxRecDepth 100000 in
theorem dc_123 : ∀ en ∈ cd_123, decode prog_10_method_26_code en.1 = .ok (en.2.1, en.2.2.1 - en.1) := by decide +kernel
set_option maxRecDepth 100000 in
set_option maxHeartbeats 4000000 in
theorem ok_123 (cA : Nat → ClassId) : mq_okm pg_cl (pg_tys cA) (pg_E cA) pg_Z pg_sw pg_mx pg_X 123 cd_123 := ⟨by decide +kernel, by decide +kernel, mq_ok_of dc_123 ⟨⟨rfl, trivial⟩,
  ⟨rfl, trivial⟩,
  ⟨rfl, _, _, _, _, okc_7 cA _, (by decide : 11 < 44), gw_807 _, trivial, ⟨rfl, Or.inr ⟨_, rfl⟩⟩⟩,
  ⟨rfl, trivial⟩,
  ⟨rfl, trivial⟩,
  ⟨rfl, ⟨okg 101 _ gc_101, gw_52 _, Or.inl (gw_938 _), ⟨by decide +kernel, by decide +kernel, by decide +kernel⟩, by decide +kernel⟩, gw_939 _⟩,
  ⟨rfl, (by decide : ((10 : Nat) : Int) + 17 = ((27 : Nat) : Int))⟩,
  ⟨rfl, trivial⟩,
  ⟨rfl, _, _, _, _, okc_7 cA _, (by decide : 19 < 44), gw_815 _, trivial, ⟨rfl, Or.inr ⟨_, rfl⟩⟩⟩,
  ⟨rfl, (by decide : (Int8.ofInt 8).toInt32 = 8)⟩,
  ⟨rfl, trivial⟩,
  ⟨rfl, trivial⟩,
  ⟨rfl, trivial⟩,
  ⟨rfl, trivial⟩,
  ⟨rfl, trivial⟩,
  ⟨rfl, (by decide : ((24 : Nat) : Int) + 5 = ((29 : Nat) : Int))⟩,
  ⟨rfl, (by decide : Int32.ofInt 1 = 1)⟩,
  ⟨rfl, Or.inr rfl⟩,
  ⟨rfl, trivial⟩,
  ⟨rfl, (by decide : (Int8.ofInt 8).toInt32 = 8)⟩,
  ⟨rfl, trivial⟩,
  ⟨rfl, trivial⟩,
  ⟨rfl, trivial⟩,
  ⟨rfl, trivial⟩,
  ⟨rfl, 1, _, rfl, ⟨okg 103 _ gc_103, gw_52 _, gw_969 _, ⟨by decide +kernel, by decide +kernel, by decide +kernel⟩, by decide +kernel⟩, gw_971 _, rfl, gw_16 _⟩,
  ⟨rfl, (by decide : Int32.ofInt 0 = 0)⟩,
  ⟨rfl, Or.inr rfl⟩, trivial⟩⟩
-- PartitionKernelModel.rank
set_option maxRecDepth 100000 in
theorem dc_124 : ∀ en ∈ cd_124, decode prog_10_method_27_code en.1 = .ok (en.2.1, en.2.2.1 - en.1) := by decide +kernel
set_option maxRecDepth 100000 in
set_option maxHeartbeats 4000000 in
theorem ok_124 (cA : Nat → ClassId) : mq_okm pg_cl (pg_tys cA) (pg_E cA) pg_Z pg_sw pg_mx pg_X 124 cd_124 := ⟨by decide +kernel, by decide +kernel, mq_ok_of dc_124 ⟨⟨rfl, trivial⟩,
  ⟨rfl, trivial⟩,
  ⟨rfl, _, _, _, _, okc_7 cA _, (by decide : 11 < 44), gw_807 _, trivial, ⟨rfl, Or.inr ⟨_, rfl⟩⟩⟩,
  ⟨rfl, trivial⟩,
  ⟨rfl, trivial⟩,
  ⟨rfl, ⟨okg 101 _ gc_101, gw_52 _, Or.inl (gw_938 _), ⟨by decide +kernel, by decide +kernel, by decide +kernel⟩, by decide +kernel⟩, gw_939 _⟩,
  ⟨rfl, (by decide : ((10 : Nat) : Int) + 12 = ((22 : Nat) : Int))⟩,
  ⟨rfl, trivial⟩,
  ⟨rfl, (by decide : (Int8.ofInt 16).toInt32 = 16)⟩,
  ⟨rfl, ⟨okg 101 _ gc_101, gw_52 _, Or.inl (gw_938 _), ⟨by decide +kernel, by decide +kernel, by decide +kernel⟩, by decide +kernel⟩, gw_939 _⟩,
  ⟨rfl, (by decide : ((19 : Nat) : Int) + 5 = ((24 : Nat) : Int))⟩,
  ⟨rfl, (by decide : Int32.ofInt 1 = 1)⟩,
  ⟨rfl, Or.inr rfl⟩,
  ⟨rfl, trivial⟩,
  ⟨rfl, _, _, _, _, okc_7 cA _, (by decide : 15 < 44), gw_811 _, trivial, ⟨rfl, Or.inr ⟨_, rfl⟩⟩⟩,
  ⟨rfl, (by decide : (Int8.ofInt 8).toInt32 = 8)⟩,
  ⟨rfl, trivial⟩,
  ⟨rfl, trivial⟩,
  ⟨rfl, trivial⟩,
  ⟨rfl, trivial⟩,
  ⟨rfl, trivial⟩,
  ⟨rfl, trivial⟩,
  ⟨rfl, (by decide : Int32.ofInt 0 = 0)⟩,
  ⟨rfl, Or.inr rfl⟩, trivial⟩⟩
-- PartitionKernelModel.take
set_option maxRecDepth 100000 in
theorem dc_125 : ∀ en ∈ cd_125, decode prog_10_method_28_code en.1 = .ok (en.2.1, en.2.2.1 - en.1) := by decide +kernel
set_option maxRecDepth 100000 in
set_option maxHeartbeats 4000000 in
theorem ok_125 (cA : Nat → ClassId) : mq_okm pg_cl (pg_tys cA) (pg_E cA) pg_Z pg_sw pg_mx pg_X 125 cd_125 := ⟨by decide +kernel, by decide +kernel, mq_ok_of dc_125 ⟨⟨rfl, trivial⟩,
  ⟨rfl, (by decide : Int32.ofInt 4 = 4)⟩,
  ⟨rfl, ⟨okg 101 _ gc_101, gw_52 _, Or.inl (gw_938 _), ⟨by decide +kernel, by decide +kernel, by decide +kernel⟩, by decide +kernel⟩, gw_939 _⟩,
  ⟨rfl, (by decide : ((5 : Nat) : Int) + 5 = ((10 : Nat) : Int))⟩,
  ⟨rfl, (by decide : Int32.ofInt 1 = 1)⟩,
  ⟨rfl, Or.inr rfl⟩,
  ⟨rfl, trivial⟩,
  ⟨rfl, _, _, _, _, okc_7 cA _, (by decide : 10 < 44), gw_806 _, trivial, ⟨rfl, Or.inr ⟨_, rfl⟩⟩⟩,
  ⟨rfl, (by decide : Int32.ofInt 4 = 4)⟩,
  ⟨rfl, trivial⟩,
  ⟨rfl, trivial⟩,
  ⟨rfl, trivial⟩,
  ⟨rfl, trivial⟩,
  ⟨rfl, trivial⟩,
  ⟨rfl, (by decide : ((20 : Nat) : Int) + 19 = ((39 : Nat) : Int))⟩,
  ⟨rfl, trivial⟩,
  ⟨rfl, _, _, _, _, okc_7 cA _, (by decide : 10 < 44), gw_806 _, trivial, ⟨rfl, Or.inr ⟨_, rfl⟩⟩⟩,
  ⟨rfl, (by decide : Int32.ofInt 4 = 4)⟩,
  ⟨rfl, trivial⟩,
  ⟨rfl, trivial⟩,
  ⟨rfl, trivial⟩,
  ⟨rfl, trivial⟩,
  ⟨rfl, trivial⟩,
  ⟨rfl, trivial⟩,
  ⟨rfl, (by decide : Int32.ofInt 1 = 1)⟩,
  ⟨rfl, trivial⟩,
  ⟨rfl, trivial⟩,
  ⟨rfl, (by decide : Int32.ofInt 0 = 0)⟩,
  ⟨rfl, Or.inr rfl⟩,
  ⟨rfl, trivial⟩,
  ⟨rfl, _, _, _, _, okc_7 cA _, (by decide : 19 < 44), gw_815 _, trivial, ⟨rfl, Or.inr ⟨_, rfl⟩⟩⟩,
  ⟨rfl, trivial⟩,
  ⟨rfl, (by decide : Int32.ofInt 3 = 3)⟩,
  ⟨rfl, trivial⟩,
  ⟨rfl, trivial⟩,
  ⟨rfl, _, _, _, _, okc_7 cA _, (by decide : 22 < 44), gw_818 _, trivial, ⟨rfl, Or.inr ⟨_, rfl⟩⟩⟩,
  ⟨rfl, trivial⟩,
  ⟨rfl, trivial⟩,
  ⟨rfl, trivial⟩,
  ⟨rfl, trivial⟩,
  ⟨rfl, _, _, _, _, okc_7 cA _, (by decide : 23 < 44), gw_819 _, trivial, ⟨rfl, Or.inr ⟨_, rfl⟩⟩⟩,
  ⟨rfl, trivial⟩,
  ⟨rfl, trivial⟩,
  ⟨rfl, _, _, _, _, okc_7 cA _, (by decide : 27 < 44), gw_823 _, trivial, ⟨rfl, rfl⟩⟩,
  ⟨rfl, trivial⟩,
  ⟨rfl, trivial⟩,
  ⟨rfl, trivial⟩,
  ⟨rfl, _, _, _, _, okc_7 cA _, (by decide : 27 < 44), gw_823 _, trivial, ⟨rfl, rfl⟩⟩,
  ⟨rfl, (by decide : Int32.ofInt 1 = 1)⟩,
  ⟨rfl, trivial⟩,
  ⟨rfl, _, _, _, _, okc_7 cA _, (by decide : 27 < 44), gw_823 _, Or.inl rfl, ⟨rfl, rfl⟩⟩,
  ⟨rfl, (by decide : Int32.ofInt 0 = 0)⟩,
  ⟨rfl, Or.inr rfl⟩, trivial⟩⟩
-- PartitionKernelModel.release
set_option maxRecDepth 100000 in
theorem dc_126 : ∀ en ∈ cd_126, decode prog_10_method_29_code en.1 = .ok (en.2.1, en.2.2.1 - en.1) := by decide +kernel
set_option maxRecDepth 100000 in
set_option maxHeartbeats 4000000 in
theorem ok_126 (cA : Nat → ClassId) : mq_okm pg_cl (pg_tys cA) (pg_E cA) pg_Z pg_sw pg_mx pg_X 126 cd_126 := ⟨by decide +kernel, by decide +kernel, mq_ok_of dc_126 ⟨⟨rfl, trivial⟩,
  ⟨rfl, (by decide : Int32.ofInt 4 = 4)⟩,
  ⟨rfl, ⟨okg 101 _ gc_101, gw_52 _, Or.inl (gw_938 _), ⟨by decide +kernel, by decide +kernel, by decide +kernel⟩, by decide +kernel⟩, gw_939 _⟩,
  ⟨rfl, (by decide : ((5 : Nat) : Int) + 5 = ((10 : Nat) : Int))⟩,
  ⟨rfl, (by decide : Int32.ofInt 1 = 1)⟩,
  ⟨rfl, Or.inr rfl⟩,
  ⟨rfl, (by decide : Int32.ofInt (-1) = (-1))⟩,
  ⟨rfl, (by decide : 3 < 6)⟩,
  ⟨rfl, (by decide : Int32.ofInt 0 = 0)⟩,
  ⟨rfl, (by decide : 4 < 6)⟩,
  ⟨rfl, trivial⟩,
  ⟨rfl, trivial⟩,
  ⟨rfl, _, _, _, _, okc_7 cA _, (by decide : 11 < 44), gw_807 _, trivial, ⟨rfl, Or.inr ⟨_, rfl⟩⟩⟩,
  ⟨rfl, trivial⟩,
  ⟨rfl, trivial⟩,
  ⟨rfl, (by decide : ((23 : Nat) : Int) + 99 = ((122 : Nat) : Int))⟩,
  ⟨rfl, (by decide : (Int8.ofInt 8).toInt32 = 8)⟩,
  ⟨rfl, trivial⟩,
  ⟨rfl, trivial⟩,
  ⟨rfl, trivial⟩,
  ⟨rfl, trivial⟩,
  ⟨rfl, (by decide : 5 < 6)⟩,
  ⟨rfl, trivial⟩,
  ⟨rfl, _, _, _, _, okc_7 cA _, (by decide : 19 < 44), gw_815 _, trivial, ⟨rfl, Or.inr ⟨_, rfl⟩⟩⟩,
  ⟨rfl, trivial⟩,
  ⟨rfl, trivial⟩,
  ⟨rfl, (by decide : Int32.ofInt 3 = 3)⟩,
  ⟨rfl, (by decide : ((43 : Nat) : Int) + 73 = ((116 : Nat) : Int))⟩,
  ⟨rfl, trivial⟩,
  ⟨rfl, _, _, _, _, okc_7 cA _, (by decide : 22 < 44), gw_818 _, trivial, ⟨rfl, Or.inr ⟨_, rfl⟩⟩⟩,
  ⟨rfl, trivial⟩,
  ⟨rfl, trivial⟩,
  ⟨rfl, trivial⟩,
  ⟨rfl, (by decide : ((54 : Nat) : Int) + 6 = ((60 : Nat) : Int))⟩,
  ⟨rfl, (by decide : ((57 : Nat) : Int) + 59 = ((116 : Nat) : Int))⟩,
  ⟨rfl, trivial⟩,
  ⟨rfl, (by decide : Int32.ofInt (-1) = (-1))⟩,
  ⟨rfl, (by decide : ((62 : Nat) : Int) + 51 = ((113 : Nat) : Int))⟩,
  ⟨rfl, trivial⟩,
  ⟨rfl, _, _, _, _, okc_7 cA _, (by decide : 15 < 44), gw_811 _, trivial, ⟨rfl, Or.inr ⟨_, rfl⟩⟩⟩,
  ⟨rfl, trivial⟩,
  ⟨rfl, trivial⟩,
  ⟨rfl, trivial⟩,
  ⟨rfl, _, _, _, _, okc_7 cA _, (by decide : 15 < 44), gw_811 _, trivial, ⟨rfl, Or.inr ⟨_, rfl⟩⟩⟩,
  ⟨rfl, trivial⟩,
  ⟨rfl, trivial⟩,
  ⟨rfl, (by decide : ((78 : Nat) : Int) + 35 = ((113 : Nat) : Int))⟩,
  ⟨rfl, trivial⟩,
  ⟨rfl, _, _, _, _, okc_7 cA _, (by decide : 15 < 44), gw_811 _, trivial, ⟨rfl, Or.inr ⟨_, rfl⟩⟩⟩,
  ⟨rfl, trivial⟩,
  ⟨rfl, trivial⟩,
  ⟨rfl, trivial⟩,
  ⟨rfl, _, _, _, _, okc_7 cA _, (by decide : 15 < 44), gw_811 _, trivial, ⟨rfl, Or.inr ⟨_, rfl⟩⟩⟩,
  ⟨rfl, trivial⟩,
  ⟨rfl, trivial⟩,
  ⟨rfl, (by decide : ((94 : Nat) : Int) + 22 = ((116 : Nat) : Int))⟩,
  ⟨rfl, trivial⟩,
  ⟨rfl, _, _, _, _, okc_7 cA _, (by decide : 23 < 44), gw_819 _, trivial, ⟨rfl, Or.inr ⟨_, rfl⟩⟩⟩,
  ⟨rfl, trivial⟩,
  ⟨rfl, trivial⟩,
  ⟨rfl, trivial⟩,
  ⟨rfl, _, _, _, _, okc_7 cA _, (by decide : 23 < 44), gw_819 _, trivial, ⟨rfl, Or.inr ⟨_, rfl⟩⟩⟩,
  ⟨rfl, trivial⟩,
  ⟨rfl, trivial⟩,
  ⟨rfl, (by decide : ((110 : Nat) : Int) + 6 = ((116 : Nat) : Int))⟩,
  ⟨rfl, trivial⟩,
  ⟨rfl, (by decide : 3 < 6)⟩,
  ⟨rfl, (by decide : 4 < 6), (by decide : Int32.ofInt 1 = 1)⟩,
  ⟨rfl, (by decide : ((119 : Nat) : Int) + (-104) = ((15 : Nat) : Int))⟩,
  ⟨rfl, trivial⟩,
  ⟨rfl, (by decide : Int32.ofInt (-1) = (-1))⟩,
  ⟨rfl, (by decide : ((124 : Nat) : Int) + 10 = ((134 : Nat) : Int))⟩,
  ⟨rfl, trivial⟩,
  ⟨rfl, trivial⟩,
  ⟨rfl, 1, _, rfl, ⟨okg 102 _ gc_102, gw_52 _, gw_973 _, ⟨by decide +kernel, by decide +kernel, by decide +kernel⟩, by decide +kernel⟩, gw_975 _, rfl, gw_17 _⟩,
  ⟨rfl, (by decide : Int32.ofInt 0 = 0)⟩,
  ⟨rfl, Or.inr rfl⟩,
  ⟨rfl, trivial⟩,
  ⟨rfl, _, _, _, _, okc_7 cA _, (by decide : 10 < 44), gw_806 _, trivial, ⟨rfl, Or.inr ⟨_, rfl⟩⟩⟩,
  ⟨rfl, (by decide : Int32.ofInt 4 = 4)⟩,
  ⟨rfl, trivial⟩,
  ⟨rfl, trivial⟩,
  ⟨rfl, trivial⟩,
  ⟨rfl, trivial⟩,
  ⟨rfl, trivial⟩,
  ⟨rfl, (by decide : (Int16.ofInt 1000).toInt32 = 1000)⟩,
  ⟨rfl, (by decide : ((147 : Nat) : Int) + 5 = ((152 : Nat) : Int))⟩,
  ⟨rfl, (by decide : Int32.ofInt 1 = 1)⟩,
  ⟨rfl, Or.inr rfl⟩,
  ⟨rfl, trivial⟩,
  ⟨rfl, _, _, _, _, okc_7 cA _, (by decide : 10 < 44), gw_806 _, trivial, ⟨rfl, Or.inr ⟨_, rfl⟩⟩⟩,
  ⟨rfl, (by decide : Int32.ofInt 4 = 4)⟩,
  ⟨rfl, trivial⟩,
  ⟨rfl, trivial⟩,
  ⟨rfl, trivial⟩,
  ⟨rfl, trivial⟩,
  ⟨rfl, trivial⟩,
  ⟨rfl, trivial⟩,
  ⟨rfl, (by decide : Int32.ofInt 1 = 1)⟩,
  ⟨rfl, trivial⟩,
  ⟨rfl, trivial⟩,
  ⟨rfl, (by decide : Int32.ofInt 0 = 0)⟩,
  ⟨rfl, Or.inr rfl⟩, trivial⟩⟩
-- PartitionKernelModel.send
set_option maxRecDepth 100000 in
theorem dc_127 : ∀ en ∈ cd_127, decode prog_10_method_30_code en.1 = .ok (en.2.1, en.2.2.1 - en.1) := by decide +kernel
set_option maxRecDepth 100000 in
set_option maxHeartbeats 4000000 in
theorem ok_127 (cA : Nat → ClassId) : mq_okm pg_cl (pg_tys cA) (pg_E cA) pg_Z pg_sw pg_mx pg_X 127 cd_127 := ⟨by decide +kernel, by decide +kernel, mq_ok_of dc_127 ⟨⟨rfl, trivial⟩,
  ⟨rfl, trivial⟩,
  ⟨rfl, _, _, _, _, okc_7 cA _, (by decide : 28 < 44), gw_824 _, trivial, ⟨rfl, rfl⟩⟩,
  ⟨rfl, ⟨okg 101 _ gc_101, gw_52 _, Or.inl (gw_938 _), ⟨by decide +kernel, by decide +kernel, by decide +kernel⟩, by decide +kernel⟩, gw_939 _⟩,
  ⟨rfl, (by decide : ((8 : Nat) : Int) + 13 = ((21 : Nat) : Int))⟩,
  ⟨rfl, trivial⟩,
  ⟨rfl, _, _, _, _, okc_7 cA _, (by decide : 30 < 44), gw_826 _, trivial, ⟨rfl, Or.inr ⟨_, rfl⟩⟩⟩,
  ⟨rfl, trivial⟩,
  ⟨rfl, trivial⟩,
  ⟨rfl, trivial⟩,
  ⟨rfl, (by decide : ((18 : Nat) : Int) + 5 = ((23 : Nat) : Int))⟩,
  ⟨rfl, (by decide : Int32.ofInt 1 = 1)⟩,
  ⟨rfl, Or.inr rfl⟩,
  ⟨rfl, trivial⟩,
  ⟨rfl, _, _, _, _, okc_7 cA _, (by decide : 29 < 44), gw_825 _, trivial, ⟨rfl, Or.inr ⟨_, rfl⟩⟩⟩,
  ⟨rfl, trivial⟩,
  ⟨rfl, trivial⟩,
  ⟨rfl, (by decide : ((29 : Nat) : Int) + 32 = ((61 : Nat) : Int))⟩,
  ⟨rfl, trivial⟩,
  ⟨rfl, _, _, _, _, okc_7 cA _, (by decide : 35 < 44), gw_831 _, trivial, ⟨rfl, Or.inr ⟨_, rfl⟩⟩⟩,
  ⟨rfl, (by decide : (Int8.ofInt 8).toInt32 = 8)⟩,
  ⟨rfl, trivial⟩,
  ⟨rfl, trivial⟩,
  ⟨rfl, trivial⟩,
  ⟨rfl, trivial⟩,
  ⟨rfl, trivial⟩,
  ⟨rfl, _, _, _, _, okc_7 cA _, (by decide : 33 < 44), gw_829 _, trivial, ⟨rfl, Or.inr ⟨_, rfl⟩⟩⟩,
  ⟨rfl, trivial⟩,
  ⟨rfl, (by decide : Int32.ofInt 1 = 1)⟩,
  ⟨rfl, trivial⟩,
  ⟨rfl, trivial⟩,
  ⟨rfl, _, _, _, _, okc_7 cA _, (by decide : 34 < 44), gw_830 _, trivial, ⟨rfl, Or.inr ⟨_, rfl⟩⟩⟩,
  ⟨rfl, trivial⟩,
  ⟨rfl, trivial⟩,
  ⟨rfl, _, _, _, _, okc_7 cA _, (by decide : 2 < 44), gw_798 _, trivial, ⟨rfl, rfl⟩⟩,
  ⟨rfl, trivial⟩,
  ⟨rfl, (by decide : Int32.ofInt 0 = 0)⟩,
  ⟨rfl, Or.inr rfl⟩,
  ⟨rfl, trivial⟩,
  ⟨rfl, _, _, _, _, okc_7 cA _, (by decide : 33 < 44), gw_829 _, trivial, ⟨rfl, Or.inr ⟨_, rfl⟩⟩⟩,
  ⟨rfl, trivial⟩,
  ⟨rfl, trivial⟩,
  ⟨rfl, trivial⟩,
  ⟨rfl, _, _, _, _, okc_7 cA _, (by decide : 32 < 44), gw_828 _, trivial, ⟨rfl, Or.inr ⟨_, rfl⟩⟩⟩,
  ⟨rfl, trivial⟩,
  ⟨rfl, trivial⟩,
  ⟨rfl, (by decide : ((73 : Nat) : Int) + 5 = ((78 : Nat) : Int))⟩,
  ⟨rfl, (by decide : Int32.ofInt 2 = 2)⟩,
  ⟨rfl, Or.inr rfl⟩,
  ⟨rfl, trivial⟩,
  ⟨rfl, _, _, _, _, okc_7 cA _, (by decide : 35 < 44), gw_831 _, trivial, ⟨rfl, Or.inr ⟨_, rfl⟩⟩⟩,
  ⟨rfl, (by decide : (Int8.ofInt 8).toInt32 = 8)⟩,
  ⟨rfl, trivial⟩,
  ⟨rfl, trivial⟩,
  ⟨rfl, trivial⟩,
  ⟨rfl, _, _, _, _, okc_7 cA _, (by decide : 33 < 44), gw_829 _, trivial, ⟨rfl, Or.inr ⟨_, rfl⟩⟩⟩,
  ⟨rfl, trivial⟩,
  ⟨rfl, trivial⟩,
  ⟨rfl, trivial⟩,
  ⟨rfl, trivial⟩,
  ⟨rfl, trivial⟩,
  ⟨rfl, trivial⟩,
  ⟨rfl, _, _, _, _, okc_7 cA _, (by decide : 33 < 44), gw_829 _, trivial, ⟨rfl, Or.inr ⟨_, rfl⟩⟩⟩,
  ⟨rfl, trivial⟩,
  ⟨rfl, trivial⟩,
  ⟨rfl, trivial⟩,
  ⟨rfl, (by decide : Int32.ofInt 1 = 1)⟩,
  ⟨rfl, trivial⟩,
  ⟨rfl, trivial⟩,
  ⟨rfl, (by decide : Int32.ofInt 0 = 0)⟩,
  ⟨rfl, Or.inr rfl⟩, trivial⟩⟩
-- PartitionKernelModel.receive
set_option maxRecDepth 100000 in
theorem dc_128 : ∀ en ∈ cd_128, decode prog_10_method_31_code en.1 = .ok (en.2.1, en.2.2.1 - en.1) := by decide +kernel
set_option maxRecDepth 100000 in
set_option maxHeartbeats 4000000 in
theorem ok_128 (cA : Nat → ClassId) : mq_okm pg_cl (pg_tys cA) (pg_E cA) pg_Z pg_sw pg_mx pg_X 128 cd_128 := ⟨by decide +kernel, by decide +kernel, mq_ok_of dc_128 ⟨⟨rfl, trivial⟩,
  ⟨rfl, trivial⟩,
  ⟨rfl, _, _, _, _, okc_7 cA _, (by decide : 28 < 44), gw_824 _, trivial, ⟨rfl, rfl⟩⟩,
  ⟨rfl, ⟨okg 101 _ gc_101, gw_52 _, Or.inl (gw_938 _), ⟨by decide +kernel, by decide +kernel, by decide +kernel⟩, by decide +kernel⟩, gw_939 _⟩,
  ⟨rfl, (by decide : ((8 : Nat) : Int) + 13 = ((21 : Nat) : Int))⟩,
  ⟨rfl, trivial⟩,
  ⟨rfl, _, _, _, _, okc_7 cA _, (by decide : 31 < 44), gw_827 _, trivial, ⟨rfl, Or.inr ⟨_, rfl⟩⟩⟩,
  ⟨rfl, trivial⟩,
  ⟨rfl, trivial⟩,
  ⟨rfl, trivial⟩,
  ⟨rfl, (by decide : ((18 : Nat) : Int) + 5 = ((23 : Nat) : Int))⟩,
  ⟨rfl, (by decide : Int32.ofInt 1 = 1)⟩,
  ⟨rfl, Or.inr rfl⟩,
  ⟨rfl, trivial⟩,
  ⟨rfl, _, _, _, _, okc_7 cA _, (by decide : 33 < 44), gw_829 _, trivial, ⟨rfl, Or.inr ⟨_, rfl⟩⟩⟩,
  ⟨rfl, trivial⟩,
  ⟨rfl, trivial⟩,
  ⟨rfl, (by decide : ((29 : Nat) : Int) + 5 = ((34 : Nat) : Int))⟩,
  ⟨rfl, (by decide : Int32.ofInt 2 = 2)⟩,
  ⟨rfl, Or.inr rfl⟩,
  ⟨rfl, trivial⟩,
  ⟨rfl, _, _, _, _, okc_7 cA _, (by decide : 26 < 44), gw_822 _, trivial, ⟨rfl, Or.inr ⟨_, rfl⟩⟩⟩,
  ⟨rfl, (by decide : (Int8.ofInt 32).toInt32 = 32)⟩,
  ⟨rfl, trivial⟩,
  ⟨rfl, trivial⟩,
  ⟨rfl, (by decide : (Int8.ofInt 11).toInt32 = 11)⟩,
  ⟨rfl, trivial⟩,
  ⟨rfl, trivial⟩,
  ⟨rfl, _, _, _, _, okc_7 cA _, (by decide : 35 < 44), gw_831 _, trivial, ⟨rfl, Or.inr ⟨_, rfl⟩⟩⟩,
  ⟨rfl, (by decide : (Int8.ofInt 8).toInt32 = 8)⟩,
  ⟨rfl, trivial⟩,
  ⟨rfl, trivial⟩,
  ⟨rfl, trivial⟩,
  ⟨rfl, trivial⟩,
  ⟨rfl, trivial⟩,
  ⟨rfl, _, _, _, _, okc_7 cA _, (by decide : 29 < 44), gw_825 _, trivial, ⟨rfl, Or.inr ⟨_, rfl⟩⟩⟩,
  ⟨rfl, trivial⟩,
  ⟨rfl, trivial⟩,
  ⟨rfl, (by decide : ((61 : Nat) : Int) + 29 = ((90 : Nat) : Int))⟩,
  ⟨rfl, trivial⟩,
  ⟨rfl, _, _, _, _, okc_7 cA _, (by decide : 2 < 44), gw_798 _, trivial, ⟨rfl, rfl⟩⟩,
  ⟨rfl, trivial⟩,
  ⟨rfl, _, _, _, _, okc_7 cA _, (by decide : 34 < 44), gw_830 _, trivial, ⟨rfl, Or.inr ⟨_, rfl⟩⟩⟩,
  ⟨rfl, trivial⟩,
  ⟨rfl, trivial⟩,
  ⟨rfl, trivial⟩,
  ⟨rfl, trivial⟩,
  ⟨rfl, _, _, _, _, okc_7 cA _, (by decide : 32 < 44), gw_828 _, trivial, ⟨rfl, Or.inr ⟨_, rfl⟩⟩⟩,
  ⟨rfl, trivial⟩,
  ⟨rfl, trivial⟩,
  ⟨rfl, (by decide : ((81 : Nat) : Int) + 7 = ((88 : Nat) : Int))⟩,
  ⟨rfl, (by decide : Int32.ofInt 0 = 0)⟩,
  ⟨rfl, (by decide : ((85 : Nat) : Int) + 4 = ((89 : Nat) : Int))⟩,
  ⟨rfl, (by decide : Int32.ofInt 3 = 3)⟩,
  ⟨rfl, Or.inr rfl⟩,
  ⟨rfl, trivial⟩,
  ⟨rfl, _, _, _, _, okc_7 cA _, (by decide : 33 < 44), gw_829 _, trivial, ⟨rfl, Or.inr ⟨_, rfl⟩⟩⟩,
  ⟨rfl, trivial⟩,
  ⟨rfl, trivial⟩,
  ⟨rfl, trivial⟩,
  ⟨rfl, (by decide : Int32.ofInt 1 = 1)⟩,
  ⟨rfl, trivial⟩,
  ⟨rfl, trivial⟩,
  ⟨rfl, (by decide : Int32.ofInt 0 = 0)⟩,
  ⟨rfl, (by decide : 4 < 5)⟩,
  ⟨rfl, trivial⟩,
  ⟨rfl, trivial⟩,
  ⟨rfl, _, _, _, _, okc_7 cA _, (by decide : 33 < 44), gw_829 _, trivial, ⟨rfl, Or.inr ⟨_, rfl⟩⟩⟩,
  ⟨rfl, trivial⟩,
  ⟨rfl, trivial⟩,
  ⟨rfl, (by decide : ((111 : Nat) : Int) + 35 = ((146 : Nat) : Int))⟩,
  ⟨rfl, trivial⟩,
  ⟨rfl, _, _, _, _, okc_7 cA _, (by decide : 35 < 44), gw_831 _, trivial, ⟨rfl, Or.inr ⟨_, rfl⟩⟩⟩,
  ⟨rfl, (by decide : (Int8.ofInt 8).toInt32 = 8)⟩,
  ⟨rfl, trivial⟩,
  ⟨rfl, trivial⟩,
  ⟨rfl, trivial⟩,
  ⟨rfl, trivial⟩,
  ⟨rfl, trivial⟩,
  ⟨rfl, _, _, _, _, okc_7 cA _, (by decide : 35 < 44), gw_831 _, trivial, ⟨rfl, Or.inr ⟨_, rfl⟩⟩⟩,
  ⟨rfl, (by decide : (Int8.ofInt 8).toInt32 = 8)⟩,
  ⟨rfl, trivial⟩,
  ⟨rfl, trivial⟩,
  ⟨rfl, trivial⟩,
  ⟨rfl, trivial⟩,
  ⟨rfl, (by decide : Int32.ofInt 1 = 1)⟩,
  ⟨rfl, trivial⟩,
  ⟨rfl, trivial⟩,
  ⟨rfl, trivial⟩,
  ⟨rfl, (by decide : 4 < 5), (by decide : Int32.ofInt 1 = 1)⟩,
  ⟨rfl, (by decide : ((143 : Nat) : Int) + (-40) = ((103 : Nat) : Int))⟩,
  ⟨rfl, (by decide : Int32.ofInt 0 = 0)⟩,
  ⟨rfl, Or.inr rfl⟩, trivial⟩⟩
-- PartitionKernelModel.call
set_option maxRecDepth 100000 in
theorem dc_129 : ∀ en ∈ cd_129, decode prog_10_method_32_code en.1 = .ok (en.2.1, en.2.2.1 - en.1) := by decide +kernel
set_option maxRecDepth 100000 in
set_option maxHeartbeats 4000000 in
theorem ok_129 (cA : Nat → ClassId) : mq_okm pg_cl (pg_tys cA) (pg_E cA) pg_Z pg_sw pg_mx pg_X 129 cd_129 := ⟨by decide +kernel, by decide +kernel, mq_ok_of dc_129 ⟨⟨rfl, trivial⟩,
  ⟨rfl, _, _, _, _, okc_7 cA _, (by decide : 26 < 44), gw_822 _, trivial, ⟨rfl, Or.inr ⟨_, rfl⟩⟩⟩,
  ⟨rfl, (by decide : (Int8.ofInt 32).toInt32 = 32)⟩,
  ⟨rfl, trivial⟩,
  ⟨rfl, trivial⟩,
  ⟨rfl, (by decide : (Int8.ofInt 10).toInt32 = 10)⟩,
  ⟨rfl, trivial⟩,
  ⟨rfl, trivial⟩,
  ⟨rfl, (by decide : 3 < 7)⟩,
  ⟨rfl, trivial⟩,
  ⟨rfl, _, _, _, _, okc_7 cA _, (by decide : 26 < 44), gw_822 _, trivial, ⟨rfl, Or.inr ⟨_, rfl⟩⟩⟩,
  ⟨rfl, (by decide : (Int8.ofInt 32).toInt32 = 32)⟩,
  ⟨rfl, trivial⟩,
  ⟨rfl, trivial⟩,
  ⟨rfl, (by decide : (Int8.ofInt 11).toInt32 = 11)⟩,
  ⟨rfl, trivial⟩,
  ⟨rfl, trivial⟩,
  ⟨rfl, (by decide : 4 < 7)⟩,
  ⟨rfl, trivial⟩,
  ⟨rfl, _, _, _, _, okc_7 cA _, (by decide : 26 < 44), gw_822 _, trivial, ⟨rfl, Or.inr ⟨_, rfl⟩⟩⟩,
  ⟨rfl, (by decide : (Int8.ofInt 32).toInt32 = 32)⟩,
  ⟨rfl, trivial⟩,
  ⟨rfl, trivial⟩,
  ⟨rfl, (by decide : (Int8.ofInt 17).toInt32 = 17)⟩,
  ⟨rfl, trivial⟩,
  ⟨rfl, trivial⟩,
  ⟨rfl, (by decide : 5 < 7)⟩,
  ⟨rfl, trivial⟩,
  ⟨rfl, (by decide : (Int8.ofInt 10).toInt32 = 10)⟩,
  ⟨rfl, (by decide : ((45 : Nat) : Int) + 5 = ((50 : Nat) : Int))⟩,
  ⟨rfl, (by decide : Int32.ofInt 3 = 3)⟩,
  ⟨rfl, Or.inr rfl⟩,
  ⟨rfl, trivial⟩,
  ⟨rfl, (by decide : ((52 : Nat) : Int) + 10 = ((62 : Nat) : Int))⟩,
  ⟨rfl, trivial⟩,
  ⟨rfl, (by decide : (Int8.ofInt 10).toInt32 = 10)⟩,
  ⟨rfl, (by decide : ((59 : Nat) : Int) + 5 = ((64 : Nat) : Int))⟩,
  ⟨rfl, (by decide : Int32.ofInt 0 = 0)⟩,
  ⟨rfl, Or.inr rfl⟩,
  ⟨rfl, trivial⟩,
  ⟨rfl, _, _, _, _, okc_7 cA _, (by decide : 18 < 44), gw_814 _, trivial, ⟨rfl, Or.inr ⟨_, rfl⟩⟩⟩,
  ⟨rfl, trivial⟩,
  ⟨rfl, trivial⟩,
  ⟨rfl, trivial⟩,
  ⟨rfl, (by decide : Int32.ofInt 4 = 4)⟩,
  ⟨rfl, trivial⟩,
  ⟨rfl, trivial⟩,
  ⟨rfl, trivial⟩,
  ⟨rfl, trivial⟩,
  ⟨rfl, _, _, _, _, okc_7 cA _, (by decide : 18 < 44), gw_814 _, trivial, ⟨rfl, Or.inr ⟨_, rfl⟩⟩⟩,
  ⟨rfl, trivial⟩,
  ⟨rfl, trivial⟩,
  ⟨rfl, _, _, _, _, okc_7 cA _, (by decide : 41 < 44), gw_837 _, Or.inl rfl, ⟨rfl, rfl⟩⟩,
  ⟨rfl, trivial⟩,
  ⟨rfl, (by decide : ((86 : Nat) : Int) + 10 = ((96 : Nat) : Int))⟩,
  ⟨rfl, trivial⟩,
  ⟨rfl, trivial⟩,
  ⟨rfl, 1, _, rfl, ⟨okg 104 _ gc_104, gw_52 _, gw_1001 _, ⟨by decide +kernel, by decide +kernel, by decide +kernel⟩, by decide +kernel⟩, gw_1003 _, rfl, gw_23 _⟩,
  ⟨rfl, (by decide : Int32.ofInt (-1) = (-1))⟩,
  ⟨rfl, Or.inr rfl⟩,
  ⟨rfl, trivial⟩,
  ⟨rfl, (by decide : Int32.ofInt 1 = 1)⟩,
  ⟨rfl, (by decide : ((99 : Nat) : Int) + 11 = ((110 : Nat) : Int))⟩,
  ⟨rfl, trivial⟩,
  ⟨rfl, trivial⟩,
  ⟨rfl, 1, _, rfl, ⟨okg 121 _ gc_121, gw_52 _, gw_1058 _, ⟨by decide +kernel, by decide +kernel, by decide +kernel⟩, by decide +kernel⟩, gw_1060 _, rfl, gw_34 _⟩,
  ⟨rfl, (by decide : ((107 : Nat) : Int) + 121 = ((228 : Nat) : Int))⟩,
  ⟨rfl, trivial⟩,
  ⟨rfl, (by decide : Int32.ofInt 2 = 2)⟩,
  ⟨rfl, (by decide : ((113 : Nat) : Int) + 12 = ((125 : Nat) : Int))⟩,
  ⟨rfl, trivial⟩,
  ⟨rfl, trivial⟩,
  ⟨rfl, trivial⟩,
  ⟨rfl, 2, _, rfl, ⟨okg 122 _ gc_122, gw_52 _, gw_1066 _, ⟨by decide +kernel, by decide +kernel, by decide +kernel⟩, by decide +kernel⟩, gw_1068 _, rfl, gw_36 _⟩,
  ⟨rfl, (by decide : ((122 : Nat) : Int) + 106 = ((228 : Nat) : Int))⟩,
  ⟨rfl, trivial⟩,
  ⟨rfl, (by decide : Int32.ofInt 3 = 3)⟩,
  ⟨rfl, (by decide : ((128 : Nat) : Int) + 12 = ((140 : Nat) : Int))⟩,
  ⟨rfl, trivial⟩,
  ⟨rfl, trivial⟩,
  ⟨rfl, trivial⟩,
  ⟨rfl, 2, _, rfl, ⟨okg 123 _ gc_123, gw_52 _, gw_1070 _, ⟨by decide +kernel, by decide +kernel, by decide +kernel⟩, by decide +kernel⟩, gw_1072 _, rfl, gw_37 _⟩,
  ⟨rfl, (by decide : ((137 : Nat) : Int) + 91 = ((228 : Nat) : Int))⟩,
  ⟨rfl, trivial⟩,
  ⟨rfl, (by decide : Int32.ofInt 4 = 4)⟩,
  ⟨rfl, (by decide : ((143 : Nat) : Int) + 14 = ((157 : Nat) : Int))⟩,
  ⟨rfl, trivial⟩,
  ⟨rfl, trivial⟩,
  ⟨rfl, trivial⟩,
  ⟨rfl, trivial⟩,
  ⟨rfl, 3, _, rfl, ⟨okg 124 _ gc_124, gw_52 _, gw_1074 _, ⟨by decide +kernel, by decide +kernel, by decide +kernel⟩, by decide +kernel⟩, gw_1076 _, rfl, gw_38 _⟩,
  ⟨rfl, (by decide : ((154 : Nat) : Int) + 74 = ((228 : Nat) : Int))⟩,
  ⟨rfl, trivial⟩,
  ⟨rfl, (by decide : Int32.ofInt 5 = 5)⟩,
  ⟨rfl, (by decide : ((160 : Nat) : Int) + 10 = ((170 : Nat) : Int))⟩,
  ⟨rfl, trivial⟩,
  ⟨rfl, _, _, _, _, okc_7 cA _, (by decide : 2 < 44), gw_798 _, trivial, ⟨rfl, rfl⟩⟩,
  ⟨rfl, (by decide : ((167 : Nat) : Int) + 61 = ((228 : Nat) : Int))⟩,
  ⟨rfl, trivial⟩,
  ⟨rfl, (by decide : (Int8.ofInt 6).toInt32 = 6)⟩,
  ⟨rfl, (by decide : ((174 : Nat) : Int) + 13 = ((187 : Nat) : Int))⟩,
  ⟨rfl, trivial⟩,
  ⟨rfl, trivial⟩,
  ⟨rfl, trivial⟩,
  ⟨rfl, trivial⟩,
  ⟨rfl, 3, _, rfl, ⟨okg 125 _ gc_125, gw_52 _, gw_1078 _, ⟨by decide +kernel, by decide +kernel, by decide +kernel⟩, by decide +kernel⟩, gw_1080 _, rfl, gw_39 _⟩,
  ⟨rfl, (by decide : ((184 : Nat) : Int) + 44 = ((228 : Nat) : Int))⟩,
  ⟨rfl, trivial⟩,
  ⟨rfl, (by decide : (Int8.ofInt 7).toInt32 = 7)⟩,
  ⟨rfl, (by decide : ((191 : Nat) : Int) + 12 = ((203 : Nat) : Int))⟩,
  ⟨rfl, trivial⟩,
  ⟨rfl, trivial⟩,
  ⟨rfl, trivial⟩,
  ⟨rfl, 2, _, rfl, ⟨okg 126 _ gc_126, gw_52 _, gw_1082 _, ⟨by decide +kernel, by decide +kernel, by decide +kernel⟩, by decide +kernel⟩, gw_1084 _, rfl, gw_40 _⟩,
  ⟨rfl, (by decide : ((200 : Nat) : Int) + 28 = ((228 : Nat) : Int))⟩,
  ⟨rfl, trivial⟩,
  ⟨rfl, (by decide : (Int8.ofInt 8).toInt32 = 8)⟩,
  ⟨rfl, (by decide : ((207 : Nat) : Int) + 14 = ((221 : Nat) : Int))⟩,
  ⟨rfl, trivial⟩,
  ⟨rfl, trivial⟩,
  ⟨rfl, trivial⟩,
  ⟨rfl, trivial⟩,
  ⟨rfl, 3, _, rfl, ⟨okg 127 _ gc_127, gw_52 _, gw_1086 _, ⟨by decide +kernel, by decide +kernel, by decide +kernel⟩, by decide +kernel⟩, gw_1088 _, rfl, gw_41 _⟩,
  ⟨rfl, (by decide : ((218 : Nat) : Int) + 10 = ((228 : Nat) : Int))⟩,
  ⟨rfl, trivial⟩,
  ⟨rfl, trivial⟩,
  ⟨rfl, trivial⟩,
  ⟨rfl, trivial⟩,
  ⟨rfl, 3, _, rfl, ⟨okg 128 _ gc_128, gw_52 _, gw_1090 _, ⟨by decide +kernel, by decide +kernel, by decide +kernel⟩, by decide +kernel⟩, gw_1092 _, rfl, gw_42 _⟩,
  ⟨rfl, (by decide : 6 < 7)⟩,
  ⟨rfl, trivial⟩,
  ⟨rfl, _, _, _, _, okc_7 cA _, (by decide : 26 < 44), gw_822 _, trivial, ⟨rfl, Or.inr ⟨_, rfl⟩⟩⟩,
  ⟨rfl, (by decide : (Int8.ofInt 32).toInt32 = 32)⟩,
  ⟨rfl, trivial⟩,
  ⟨rfl, trivial⟩,
  ⟨rfl, (by decide : (Int8.ofInt 10).toInt32 = 10)⟩,
  ⟨rfl, trivial⟩,
  ⟨rfl, trivial⟩,
  ⟨rfl, trivial⟩,
  ⟨rfl, (by decide : Int32.ofInt (-1) = (-1))⟩,
  ⟨rfl, Or.inr rfl⟩, trivial⟩⟩
end
section
/-! Rows of methods, by program. -/
-- PartitionKernelModel.windowNow
set_option maxRecDepth 100000 in
theorem dc_130 : ∀ en ∈ cd_130, decode prog_10_method_33_code en.1 = .ok (en.2.1, en.2.2.1 - en.1) := by decide +kernel
set_option maxRecDepth 100000 in
set_option maxHeartbeats 4000000 in
theorem ok_130 (cA : Nat → ClassId) : mq_okm pg_cl (pg_tys cA) (pg_E cA) pg_Z pg_sw pg_mx pg_X 130 cd_130 := ⟨by decide +kernel, by decide +kernel, mq_ok_of dc_130 ⟨⟨rfl, trivial⟩,
  ⟨rfl, _, _, _, _, okc_7 cA _, (by decide : 2 < 44), gw_798 _, trivial, ⟨rfl, rfl⟩⟩,
  ⟨rfl, trivial⟩,
  ⟨rfl, _, _, _, _, okc_7 cA _, (by decide : 4 < 44), gw_800 _, trivial, ⟨rfl, rfl⟩⟩,
  ⟨rfl, trivial⟩,
  ⟨rfl, (by decide : 1 < 3)⟩,
  ⟨rfl, (by decide : Int32.ofInt 0 = 0)⟩,
  ⟨rfl, (by decide : 2 < 3)⟩,
  ⟨rfl, trivial⟩,
  ⟨rfl, trivial⟩,
  ⟨rfl, _, _, _, _, okc_7 cA _, (by decide : 7 < 44), gw_803 _, trivial, ⟨rfl, Or.inr ⟨_, rfl⟩⟩⟩,
  ⟨rfl, trivial⟩,
  ⟨rfl, trivial⟩,
  ⟨rfl, (by decide : ((19 : Nat) : Int) + 18 = ((37 : Nat) : Int))⟩,
  ⟨rfl, trivial⟩,
  ⟨rfl, trivial⟩,
  ⟨rfl, _, _, _, _, okc_7 cA _, (by decide : 7 < 44), gw_803 _, trivial, ⟨rfl, Or.inr ⟨_, rfl⟩⟩⟩,
  ⟨rfl, trivial⟩,
  ⟨rfl, trivial⟩,
  ⟨rfl, trivial⟩,
  ⟨rfl, (by decide : 1 < 3)⟩,
  ⟨rfl, (by decide : 2 < 3), (by decide : Int32.ofInt 1 = 1)⟩,
  ⟨rfl, (by decide : ((34 : Nat) : Int) + (-22) = ((12 : Nat) : Int))⟩,
  ⟨rfl, trivial⟩,
  ⟨rfl, _, _, _, _, okc_7 cA _, (by decide : 6 < 44), gw_802 _, trivial, ⟨rfl, Or.inr ⟨_, rfl⟩⟩⟩,
  ⟨rfl, trivial⟩,
  ⟨rfl, trivial⟩,
  ⟨rfl, Or.inr rfl⟩, trivial⟩⟩
-- PartitionKernelModel.wake
set_option maxRecDepth 100000 in
theorem dc_131 : ∀ en ∈ cd_131, decode prog_10_method_34_code en.1 = .ok (en.2.1, en.2.2.1 - en.1) := by decide +kernel
set_option maxRecDepth 100000 in
set_option maxHeartbeats 4000000 in
theorem ok_131 (cA : Nat → ClassId) : mq_okm pg_cl (pg_tys cA) (pg_E cA) pg_Z pg_sw pg_mx pg_X 131 cd_131 := ⟨by decide +kernel, by decide +kernel, mq_ok_of dc_131 ⟨⟨rfl, (by decide : Int32.ofInt 1 = 1)⟩,
  ⟨rfl, (by decide : 2 < 6)⟩,
  ⟨rfl, trivial⟩,
  ⟨rfl, (by decide : ((3 : Nat) : Int) + 106 = ((109 : Nat) : Int))⟩,
  ⟨rfl, (by decide : Int32.ofInt (-1) = (-1))⟩,
  ⟨rfl, (by decide : 3 < 6)⟩,
  ⟨rfl, (by decide : Int32.ofInt 0 = 0)⟩,
  ⟨rfl, (by decide : 4 < 6)⟩,
  ⟨rfl, trivial⟩,
  ⟨rfl, trivial⟩,
  ⟨rfl, _, _, _, _, okc_7 cA _, (by decide : 11 < 44), gw_807 _, trivial, ⟨rfl, Or.inr ⟨_, rfl⟩⟩⟩,
  ⟨rfl, trivial⟩,
  ⟨rfl, trivial⟩,
  ⟨rfl, (by decide : ((19 : Nat) : Int) + 67 = ((86 : Nat) : Int))⟩,
  ⟨rfl, (by decide : (Int8.ofInt 8).toInt32 = 8)⟩,
  ⟨rfl, trivial⟩,
  ⟨rfl, trivial⟩,
  ⟨rfl, trivial⟩,
  ⟨rfl, trivial⟩,
  ⟨rfl, (by decide : 5 < 6)⟩,
  ⟨rfl, trivial⟩,
  ⟨rfl, _, _, _, _, okc_7 cA _, (by decide : 19 < 44), gw_815 _, trivial, ⟨rfl, Or.inr ⟨_, rfl⟩⟩⟩,
  ⟨rfl, trivial⟩,
  ⟨rfl, trivial⟩,
  ⟨rfl, (by decide : Int32.ofInt 2 = 2)⟩,
  ⟨rfl, (by decide : ((39 : Nat) : Int) + 41 = ((80 : Nat) : Int))⟩,
  ⟨rfl, trivial⟩,
  ⟨rfl, _, _, _, _, okc_7 cA _, (by decide : 21 < 44), gw_817 _, trivial, ⟨rfl, Or.inr ⟨_, rfl⟩⟩⟩,
  ⟨rfl, trivial⟩,
  ⟨rfl, trivial⟩,
  ⟨rfl, trivial⟩,
  ⟨rfl, _, _, _, _, okc_7 cA _, (by decide : 2 < 44), gw_798 _, trivial, ⟨rfl, rfl⟩⟩,
  ⟨rfl, (by decide : ((53 : Nat) : Int) + 27 = ((80 : Nat) : Int))⟩,
  ⟨rfl, trivial⟩,
  ⟨rfl, (by decide : Int32.ofInt (-1) = (-1))⟩,
  ⟨rfl, (by decide : ((58 : Nat) : Int) + 19 = ((77 : Nat) : Int))⟩,
  ⟨rfl, trivial⟩,
  ⟨rfl, _, _, _, _, okc_7 cA _, (by decide : 21 < 44), gw_817 _, trivial, ⟨rfl, Or.inr ⟨_, rfl⟩⟩⟩,
  ⟨rfl, trivial⟩,
  ⟨rfl, trivial⟩,
  ⟨rfl, trivial⟩,
  ⟨rfl, _, _, _, _, okc_7 cA _, (by decide : 21 < 44), gw_817 _, trivial, ⟨rfl, Or.inr ⟨_, rfl⟩⟩⟩,
  ⟨rfl, trivial⟩,
  ⟨rfl, trivial⟩,
  ⟨rfl, (by decide : ((74 : Nat) : Int) + 6 = ((80 : Nat) : Int))⟩,
  ⟨rfl, trivial⟩,
  ⟨rfl, (by decide : 3 < 6)⟩,
  ⟨rfl, (by decide : 4 < 6), (by decide : Int32.ofInt 1 = 1)⟩,
  ⟨rfl, (by decide : ((83 : Nat) : Int) + (-72) = ((11 : Nat) : Int))⟩,
  ⟨rfl, trivial⟩,
  ⟨rfl, (by decide : Int32.ofInt (-1) = (-1))⟩,
  ⟨rfl, (by decide : ((88 : Nat) : Int) + 7 = ((95 : Nat) : Int))⟩,
  ⟨rfl, (by decide : Int32.ofInt 1 = 1)⟩,
  ⟨rfl, (by decide : ((92 : Nat) : Int) + 4 = ((96 : Nat) : Int))⟩,
  ⟨rfl, (by decide : Int32.ofInt 0 = 0)⟩,
  ⟨rfl, (by decide : 2 < 6)⟩,
  ⟨rfl, trivial⟩,
  ⟨rfl, (by decide : ((98 : Nat) : Int) + 8 = ((106 : Nat) : Int))⟩,
  ⟨rfl, trivial⟩,
  ⟨rfl, trivial⟩,
  ⟨rfl, 1, _, rfl, ⟨okg 102 _ gc_102, gw_52 _, gw_973 _, ⟨by decide +kernel, by decide +kernel, by decide +kernel⟩, by decide +kernel⟩, gw_975 _, rfl, gw_17 _⟩,
  ⟨rfl, (by decide : ((106 : Nat) : Int) + (-104) = ((2 : Nat) : Int))⟩,
  ⟨rfl, rfl⟩, trivial⟩⟩
-- PartitionKernelModel.isLate
set_option maxRecDepth 100000 in
theorem dc_132 : ∀ en ∈ cd_132, decode prog_10_method_35_code en.1 = .ok (en.2.1, en.2.2.1 - en.1) := by decide +kernel
set_option maxRecDepth 100000 in
set_option maxHeartbeats 4000000 in
theorem ok_132 (cA : Nat → ClassId) : mq_okm pg_cl (pg_tys cA) (pg_E cA) pg_Z pg_sw pg_mx pg_X 132 cd_132 := ⟨by decide +kernel, by decide +kernel, mq_ok_of dc_132 ⟨⟨rfl, (by decide : Int32.ofInt 0 = 0)⟩,
  ⟨rfl, (by decide : 2 < 4)⟩,
  ⟨rfl, trivial⟩,
  ⟨rfl, trivial⟩,
  ⟨rfl, _, _, _, _, okc_7 cA _, (by decide : 11 < 44), gw_807 _, trivial, ⟨rfl, Or.inr ⟨_, rfl⟩⟩⟩,
  ⟨rfl, trivial⟩,
  ⟨rfl, trivial⟩,
  ⟨rfl, (by decide : ((9 : Nat) : Int) + 70 = ((79 : Nat) : Int))⟩,
  ⟨rfl, (by decide : (Int8.ofInt 8).toInt32 = 8)⟩,
  ⟨rfl, trivial⟩,
  ⟨rfl, trivial⟩,
  ⟨rfl, trivial⟩,
  ⟨rfl, trivial⟩,
  ⟨rfl, (by decide : 3 < 4)⟩,
  ⟨rfl, trivial⟩,
  ⟨rfl, _, _, _, _, okc_7 cA _, (by decide : 19 < 44), gw_815 _, trivial, ⟨rfl, Or.inr ⟨_, rfl⟩⟩⟩,
  ⟨rfl, trivial⟩,
  ⟨rfl, trivial⟩,
  ⟨rfl, (by decide : ((25 : Nat) : Int) + 48 = ((73 : Nat) : Int))⟩,
  ⟨rfl, trivial⟩,
  ⟨rfl, _, _, _, _, okc_7 cA _, (by decide : 20 < 44), gw_816 _, trivial, ⟨rfl, Or.inr ⟨_, rfl⟩⟩⟩,
  ⟨rfl, trivial⟩,
  ⟨rfl, trivial⟩,
  ⟨rfl, (by decide : Int32.ofInt (-1) = (-1))⟩,
  ⟨rfl, (by decide : ((35 : Nat) : Int) + 38 = ((73 : Nat) : Int))⟩,
  ⟨rfl, trivial⟩,
  ⟨rfl, _, _, _, _, okc_7 cA _, (by decide : 20 < 44), gw_816 _, trivial, ⟨rfl, Or.inr ⟨_, rfl⟩⟩⟩,
  ⟨rfl, trivial⟩,
  ⟨rfl, trivial⟩,
  ⟨rfl, trivial⟩,
  ⟨rfl, _, _, _, _, okc_7 cA _, (by decide : 2 < 44), gw_798 _, trivial, ⟨rfl, rfl⟩⟩,
  ⟨rfl, (by decide : ((48 : Nat) : Int) + 6 = ((54 : Nat) : Int))⟩,
  ⟨rfl, (by decide : ((51 : Nat) : Int) + 22 = ((73 : Nat) : Int))⟩,
  ⟨rfl, trivial⟩,
  ⟨rfl, _, _, _, _, okc_7 cA _, (by decide : 20 < 44), gw_816 _, trivial, ⟨rfl, Or.inr ⟨_, rfl⟩⟩⟩,
  ⟨rfl, trivial⟩,
  ⟨rfl, (by decide : Int32.ofInt (-1) = (-1))⟩,
  ⟨rfl, trivial⟩,
  ⟨rfl, trivial⟩,
  ⟨rfl, trivial⟩,
  ⟨rfl, trivial⟩,
  ⟨rfl, (by decide : Int32.ofInt 2 = 2)⟩,
  ⟨rfl, 3, _, rfl, ⟨okg 106 _ gc_106, gw_52 _, gw_997 _, ⟨by decide +kernel, by decide +kernel, by decide +kernel⟩, by decide +kernel⟩, gw_999 _, rfl, gw_22 _⟩,
  ⟨rfl, (by decide : ((68 : Nat) : Int) + 5 = ((73 : Nat) : Int))⟩,
  ⟨rfl, (by decide : Int32.ofInt 1 = 1)⟩,
  ⟨rfl, Or.inl ⟨rfl, rfl⟩⟩,
  ⟨rfl, (by decide : 2 < 4), (by decide : Int32.ofInt 1 = 1)⟩,
  ⟨rfl, (by decide : ((76 : Nat) : Int) + (-74) = ((2 : Nat) : Int))⟩,
  ⟨rfl, (by decide : Int32.ofInt 0 = 0)⟩,
  ⟨rfl, Or.inl ⟨rfl, rfl⟩⟩, trivial⟩⟩
-- PartitionKernelModel.first
set_option maxRecDepth 100000 in
theorem dc_133 : ∀ en ∈ cd_133, decode prog_10_method_36_code en.1 = .ok (en.2.1, en.2.2.1 - en.1) := by decide +kernel
set_option maxRecDepth 100000 in
set_option maxHeartbeats 4000000 in
theorem ok_133 (cA : Nat → ClassId) : mq_okm pg_cl (pg_tys cA) (pg_E cA) pg_Z pg_sw pg_mx pg_X 133 cd_133 := ⟨by decide +kernel, by decide +kernel, mq_ok_of dc_133 ⟨⟨rfl, (by decide : Int32.ofInt (-1) = (-1))⟩,
  ⟨rfl, (by decide : 2 < 5)⟩,
  ⟨rfl, (by decide : Int32.ofInt 0 = 0)⟩,
  ⟨rfl, (by decide : 3 < 5)⟩,
  ⟨rfl, trivial⟩,
  ⟨rfl, trivial⟩,
  ⟨rfl, _, _, _, _, okc_7 cA _, (by decide : 11 < 44), gw_807 _, trivial, ⟨rfl, Or.inr ⟨_, rfl⟩⟩⟩,
  ⟨rfl, trivial⟩,
  ⟨rfl, trivial⟩,
  ⟨rfl, (by decide : ((11 : Nat) : Int) + 87 = ((98 : Nat) : Int))⟩,
  ⟨rfl, (by decide : (Int8.ofInt 8).toInt32 = 8)⟩,
  ⟨rfl, trivial⟩,
  ⟨rfl, trivial⟩,
  ⟨rfl, trivial⟩,
  ⟨rfl, trivial⟩,
  ⟨rfl, (by decide : 4 < 5)⟩,
  ⟨rfl, trivial⟩,
  ⟨rfl, _, _, _, _, okc_7 cA _, (by decide : 19 < 44), gw_815 _, trivial, ⟨rfl, Or.inr ⟨_, rfl⟩⟩⟩,
  ⟨rfl, trivial⟩,
  ⟨rfl, trivial⟩,
  ⟨rfl, (by decide : Int32.ofInt 1 = 1)⟩,
  ⟨rfl, (by decide : ((30 : Nat) : Int) + 6 = ((36 : Nat) : Int))⟩,
  ⟨rfl, (by decide : ((33 : Nat) : Int) + 59 = ((92 : Nat) : Int))⟩,
  ⟨rfl, trivial⟩,
  ⟨rfl, (by decide : Int32.ofInt (-1) = (-1))⟩,
  ⟨rfl, (by decide : ((38 : Nat) : Int) + 51 = ((89 : Nat) : Int))⟩,
  ⟨rfl, trivial⟩,
  ⟨rfl, _, _, _, _, okc_7 cA _, (by decide : 15 < 44), gw_811 _, trivial, ⟨rfl, Or.inr ⟨_, rfl⟩⟩⟩,
  ⟨rfl, trivial⟩,
  ⟨rfl, trivial⟩,
  ⟨rfl, trivial⟩,
  ⟨rfl, _, _, _, _, okc_7 cA _, (by decide : 15 < 44), gw_811 _, trivial, ⟨rfl, Or.inr ⟨_, rfl⟩⟩⟩,
  ⟨rfl, trivial⟩,
  ⟨rfl, trivial⟩,
  ⟨rfl, (by decide : ((54 : Nat) : Int) + 35 = ((89 : Nat) : Int))⟩,
  ⟨rfl, trivial⟩,
  ⟨rfl, _, _, _, _, okc_7 cA _, (by decide : 15 < 44), gw_811 _, trivial, ⟨rfl, Or.inr ⟨_, rfl⟩⟩⟩,
  ⟨rfl, trivial⟩,
  ⟨rfl, trivial⟩,
  ⟨rfl, trivial⟩,
  ⟨rfl, _, _, _, _, okc_7 cA _, (by decide : 15 < 44), gw_811 _, trivial, ⟨rfl, Or.inr ⟨_, rfl⟩⟩⟩,
  ⟨rfl, trivial⟩,
  ⟨rfl, trivial⟩,
  ⟨rfl, (by decide : ((70 : Nat) : Int) + 22 = ((92 : Nat) : Int))⟩,
  ⟨rfl, trivial⟩,
  ⟨rfl, _, _, _, _, okc_7 cA _, (by decide : 23 < 44), gw_819 _, trivial, ⟨rfl, Or.inr ⟨_, rfl⟩⟩⟩,
  ⟨rfl, trivial⟩,
  ⟨rfl, trivial⟩,
  ⟨rfl, trivial⟩,
  ⟨rfl, _, _, _, _, okc_7 cA _, (by decide : 23 < 44), gw_819 _, trivial, ⟨rfl, Or.inr ⟨_, rfl⟩⟩⟩,
  ⟨rfl, trivial⟩,
  ⟨rfl, trivial⟩,
  ⟨rfl, (by decide : ((86 : Nat) : Int) + 6 = ((92 : Nat) : Int))⟩,
  ⟨rfl, trivial⟩,
  ⟨rfl, (by decide : 2 < 5)⟩,
  ⟨rfl, (by decide : 3 < 5), (by decide : Int32.ofInt 1 = 1)⟩,
  ⟨rfl, (by decide : ((95 : Nat) : Int) + (-91) = ((4 : Nat) : Int))⟩,
  ⟨rfl, trivial⟩,
  ⟨rfl, Or.inr rfl⟩, trivial⟩⟩
-- PartitionKernelModel.tick
set_option maxRecDepth 100000 in
theorem dc_134 : ∀ en ∈ cd_134, decode prog_10_method_37_code en.1 = .ok (en.2.1, en.2.2.1 - en.1) := by decide +kernel
set_option maxRecDepth 100000 in
set_option maxHeartbeats 4000000 in
theorem ok_134 (cA : Nat → ClassId) : mq_okm pg_cl (pg_tys cA) (pg_E cA) pg_Z pg_sw pg_mx pg_X 134 cd_134 := ⟨by decide +kernel, by decide +kernel, mq_ok_of dc_134 ⟨⟨rfl, trivial⟩,
  ⟨rfl, 0, _, rfl, ⟨okg 130 _ gc_130, gw_52 _, gw_985 _, ⟨by decide +kernel, by decide +kernel, by decide +kernel⟩, by decide +kernel⟩, gw_987 _, rfl, gw_19 _⟩,
  ⟨rfl, (by decide : 1 < 6)⟩,
  ⟨rfl, (by decide : Int32.ofInt 0 = 0)⟩,
  ⟨rfl, (by decide : 2 < 6)⟩,
  ⟨rfl, trivial⟩,
  ⟨rfl, _, _, _, _, okc_7 cA _, (by decide : 13 < 44), gw_809 _, trivial, ⟨rfl, Or.inr ⟨_, rfl⟩⟩⟩,
  ⟨rfl, trivial⟩,
  ⟨rfl, trivial⟩,
  ⟨rfl, (by decide : ((13 : Nat) : Int) + 163 = ((176 : Nat) : Int))⟩,
  ⟨rfl, trivial⟩,
  ⟨rfl, trivial⟩,
  ⟨rfl, 1, _, rfl, ⟨okg 131 _ gc_131, gw_52 _, gw_989 _, ⟨by decide +kernel, by decide +kernel, by decide +kernel⟩, by decide +kernel⟩, gw_991 _, rfl, gw_20 _⟩,
  ⟨rfl, trivial⟩,
  ⟨rfl, trivial⟩,
  ⟨rfl, 1, _, rfl, ⟨okg 132 _ gc_132, gw_52 _, gw_993 _, ⟨by decide +kernel, by decide +kernel, by decide +kernel⟩, by decide +kernel⟩, gw_995 _, rfl, gw_21 _⟩,
  ⟨rfl, (by decide : ((26 : Nat) : Int) + 7 = ((33 : Nat) : Int))⟩,
  ⟨rfl, (by decide : Int32.ofInt (-1) = (-1))⟩,
  ⟨rfl, (by decide : ((30 : Nat) : Int) + 8 = ((38 : Nat) : Int))⟩,
  ⟨rfl, trivial⟩,
  ⟨rfl, trivial⟩,
  ⟨rfl, 1, _, rfl, ⟨okg 133 _ gc_133, gw_52 _, gw_1009 _, ⟨by decide +kernel, by decide +kernel, by decide +kernel⟩, by decide +kernel⟩, gw_1011 _, rfl, gw_25 _⟩,
  ⟨rfl, (by decide : 3 < 6)⟩,
  ⟨rfl, trivial⟩,
  ⟨rfl, (by decide : Int32.ofInt (-1) = (-1))⟩,
  ⟨rfl, (by decide : ((41 : Nat) : Int) + 135 = ((176 : Nat) : Int))⟩,
  ⟨rfl, (by decide : Int32.ofInt 1 = 1)⟩,
  ⟨rfl, (by decide : 2 < 6)⟩,
  ⟨rfl, trivial⟩,
  ⟨rfl, trivial⟩,
  ⟨rfl, _, _, _, _, okc_7 cA _, (by decide : 5 < 44), gw_801 _, trivial, ⟨rfl, rfl⟩⟩,
  ⟨rfl, (by decide : Int32.ofInt 1 = 1)⟩,
  ⟨rfl, trivial⟩,
  ⟨rfl, _, _, _, _, okc_7 cA _, (by decide : 5 < 44), gw_801 _, Or.inl rfl, ⟨rfl, rfl⟩⟩,
  ⟨rfl, trivial⟩,
  ⟨rfl, _, _, _, _, okc_7 cA _, (by decide : 24 < 44), gw_820 _, trivial, ⟨rfl, Or.inr ⟨_, rfl⟩⟩⟩,
  ⟨rfl, trivial⟩,
  ⟨rfl, trivial⟩,
  ⟨rfl, trivial⟩,
  ⟨rfl, (by decide : Int32.ofInt 1 = 1)⟩,
  ⟨rfl, trivial⟩,
  ⟨rfl, trivial⟩,
  ⟨rfl, trivial⟩,
  ⟨rfl, _, _, _, _, okc_7 cA _, (by decide : 18 < 44), gw_814 _, trivial, ⟨rfl, Or.inr ⟨_, rfl⟩⟩⟩,
  ⟨rfl, trivial⟩,
  ⟨rfl, trivial⟩,
  ⟨rfl, (by decide : Int32.ofInt 4 = 4)⟩,
  ⟨rfl, ⟨okg 107 _ gc_107, gw_52 _, Or.inl (gw_958 _), ⟨by decide +kernel, by decide +kernel, by decide +kernel⟩, by decide +kernel⟩, gw_959 _⟩,
  ⟨rfl, (by decide : ((76 : Nat) : Int) + 18 = ((94 : Nat) : Int))⟩,
  ⟨rfl, trivial⟩,
  ⟨rfl, trivial⟩,
  ⟨rfl, trivial⟩,
  ⟨rfl, _, _, _, _, okc_7 cA _, (by decide : 18 < 44), gw_814 _, trivial, ⟨rfl, Or.inr ⟨_, rfl⟩⟩⟩,
  ⟨rfl, trivial⟩,
  ⟨rfl, trivial⟩,
  ⟨rfl, (by decide : Int32.ofInt 4 = 4)⟩,
  ⟨rfl, 3, _, rfl, ⟨okg 108 _ gc_108, gw_52 _, gw_1013 _, ⟨by decide +kernel, by decide +kernel, by decide +kernel⟩, by decide +kernel⟩, gw_1015 _, rfl, gw_26 _⟩,
  ⟨rfl, (by decide : ((91 : Nat) : Int) + 4 = ((95 : Nat) : Int))⟩,
  ⟨rfl, (by decide : Int32.ofInt 0 = 0)⟩,
  ⟨rfl, (by decide : 4 < 6)⟩,
  ⟨rfl, trivial⟩,
  ⟨rfl, trivial⟩,
  ⟨rfl, trivial⟩,
  ⟨rfl, 2, _, rfl, ⟨okg 119 _ gc_119, gw_52 _, gw_1017 _, ⟨by decide +kernel, by decide +kernel, by decide +kernel⟩, by decide +kernel⟩, gw_1019 _, rfl, gw_27 _⟩,
  ⟨rfl, (by decide : 5 < 6)⟩,
  ⟨rfl, trivial⟩,
  ⟨rfl, (by decide : Int32.ofInt (-1) = (-1))⟩,
  ⟨rfl, (by decide : ((108 : Nat) : Int) + 18 = ((126 : Nat) : Int))⟩,
  ⟨rfl, trivial⟩,
  ⟨rfl, trivial⟩,
  ⟨rfl, trivial⟩,
  ⟨rfl, (by decide : (Int8.ofInt 8).toInt32 = 8)⟩,
  ⟨rfl, trivial⟩,
  ⟨rfl, trivial⟩,
  ⟨rfl, 3, _, rfl, ⟨okg 106 _ gc_106, gw_52 _, gw_997 _, ⟨by decide +kernel, by decide +kernel, by decide +kernel⟩, by decide +kernel⟩, gw_999 _, rfl, gw_22 _⟩,
  ⟨rfl, trivial⟩,
  ⟨rfl, (by decide : ((123 : Nat) : Int) + 53 = ((176 : Nat) : Int))⟩,
  ⟨rfl, trivial⟩,
  ⟨rfl, _, _, _, _, okc_7 cA _, (by decide : 43 < 44), gw_839 _, trivial, ⟨rfl, rfl⟩⟩,
  ⟨rfl, (by decide : ((130 : Nat) : Int) + 36 = ((166 : Nat) : Int))⟩,
  ⟨rfl, trivial⟩,
  ⟨rfl, (by decide : (Int8.ofInt 7).toInt32 = 7)⟩,
  ⟨rfl, (by decide : Int32.ofInt 5 = 5)⟩,
  ⟨rfl, ⟨okg 110 _ gc_110, gw_52 _, Or.inl (gw_1021 _), ⟨by decide +kernel, by decide +kernel, by decide +kernel⟩, by decide +kernel⟩, gw_1022 _⟩,
  ⟨rfl, (by decide : ((141 : Nat) : Int) + 25 = ((166 : Nat) : Int))⟩,
  ⟨rfl, trivial⟩,
  ⟨rfl, _, _, _, _, okc_7 cA _, (by decide : 26 < 44), gw_822 _, trivial, ⟨rfl, Or.inr ⟨_, rfl⟩⟩⟩,
  ⟨rfl, (by decide : (Int8.ofInt 32).toInt32 = 32)⟩,
  ⟨rfl, trivial⟩,
  ⟨rfl, trivial⟩,
  ⟨rfl, trivial⟩,
  ⟨rfl, (by decide : (Int8.ofInt 7).toInt32 = 7)⟩,
  ⟨rfl, (by decide : Int32.ofInt 5 = 5)⟩,
  ⟨rfl, ⟨okg 110 _ gc_110, gw_52 _, Or.inl (gw_1021 _), ⟨by decide +kernel, by decide +kernel, by decide +kernel⟩, by decide +kernel⟩, gw_1022 _⟩,
  ⟨rfl, trivial⟩,
  ⟨rfl, trivial⟩,
  ⟨rfl, _, _, _, _, okc_7 cA _, (by decide : 42 < 44), gw_838 _, trivial, ⟨rfl, rfl⟩⟩,
  ⟨rfl, trivial⟩,
  ⟨rfl, trivial⟩,
  ⟨rfl, _, _, _, _, okc_7 cA _, (by decide : 18 < 44), gw_814 _, trivial, ⟨rfl, Or.inr ⟨_, rfl⟩⟩⟩,
  ⟨rfl, trivial⟩,
  ⟨rfl, trivial⟩,
  ⟨rfl, _, _, _, _, okc_7 cA _, (by decide : 41 < 44), gw_837 _, trivial, ⟨rfl, rfl⟩⟩,
  ⟨rfl, trivial⟩,
  ⟨rfl, trivial⟩,
  ⟨rfl, trivial⟩,
  ⟨rfl, _, _, _, _, okc_7 cA _, (by decide : 2 < 44), gw_798 _, trivial, ⟨rfl, rfl⟩⟩,
  ⟨rfl, (by decide : Int32.ofInt 1 = 1)⟩,
  ⟨rfl, trivial⟩,
  ⟨rfl, _, _, _, _, okc_7 cA _, (by decide : 2 < 44), gw_798 _, Or.inl rfl, ⟨rfl, rfl⟩⟩,
  ⟨rfl, trivial⟩,
  ⟨rfl, Or.inr rfl⟩, trivial⟩⟩
-- PartitionKernelModel.window
set_option maxRecDepth 100000 in
theorem dc_135 : ∀ en ∈ cd_135, decode prog_10_method_38_code en.1 = .ok (en.2.1, en.2.2.1 - en.1) := by decide +kernel
set_option maxRecDepth 100000 in
set_option maxHeartbeats 4000000 in
theorem ok_135 (cA : Nat → ClassId) : mq_okm pg_cl (pg_tys cA) (pg_E cA) pg_Z pg_sw pg_mx pg_X 135 cd_135 := ⟨by decide +kernel, by decide +kernel, mq_ok_of dc_135 ⟨⟨rfl, trivial⟩,
  ⟨rfl, trivial⟩,
  ⟨rfl, (by decide : Int32.ofInt 4 = 4)⟩,
  ⟨rfl, ⟨okg 101 _ gc_101, gw_52 _, Or.inl (gw_938 _), ⟨by decide +kernel, by decide +kernel, by decide +kernel⟩, by decide +kernel⟩, gw_939 _⟩,
  ⟨rfl, (by decide : ((6 : Nat) : Int) + 7 = ((13 : Nat) : Int))⟩,
  ⟨rfl, (by decide : Int32.ofInt 1 = 1)⟩,
  ⟨rfl, (by decide : ((10 : Nat) : Int) + 39 = ((49 : Nat) : Int))⟩,
  ⟨rfl, trivial⟩,
  ⟨rfl, (by decide : Int32.ofInt 1 = 1)⟩,
  ⟨rfl, (by decide : ((15 : Nat) : Int) + 9 = ((24 : Nat) : Int))⟩,
  ⟨rfl, trivial⟩,
  ⟨rfl, (by decide : (Int8.ofInt 100).toInt32 = 100)⟩,
  ⟨rfl, (by decide : ((21 : Nat) : Int) + 7 = ((28 : Nat) : Int))⟩,
  ⟨rfl, (by decide : Int32.ofInt 2 = 2)⟩,
  ⟨rfl, (by decide : ((25 : Nat) : Int) + 24 = ((49 : Nat) : Int))⟩,
  ⟨rfl, trivial⟩,
  ⟨rfl, _, _, _, _, okc_7 cA _, (by decide : 1 < 44), gw_797 _, trivial, ⟨rfl, rfl⟩⟩,
  ⟨rfl, (by decide : ((32 : Nat) : Int) + 12 = ((44 : Nat) : Int))⟩,
  ⟨rfl, trivial⟩,
  ⟨rfl, _, _, _, _, okc_7 cA _, (by decide : 3 < 44), gw_799 _, trivial, ⟨rfl, rfl⟩⟩,
  ⟨rfl, (by decide : (Int8.ofInt 8).toInt32 = 8)⟩,
  ⟨rfl, (by decide : ((41 : Nat) : Int) + 7 = ((48 : Nat) : Int))⟩,
  ⟨rfl, (by decide : Int32.ofInt 3 = 3)⟩,
  ⟨rfl, (by decide : ((45 : Nat) : Int) + 4 = ((49 : Nat) : Int))⟩,
  ⟨rfl, (by decide : Int32.ofInt 0 = 0)⟩,
  ⟨rfl, _, _, _, _, okc_7 cA _, (by decide : 0 < 44), gw_796 _, Or.inl rfl, ⟨rfl, rfl⟩⟩,
  ⟨rfl, trivial⟩,
  ⟨rfl, _, _, _, _, okc_7 cA _, (by decide : 0 < 44), gw_796 _, trivial, ⟨rfl, rfl⟩⟩,
  ⟨rfl, (by decide : ((56 : Nat) : Int) + 4 = ((60 : Nat) : Int))⟩,
  ⟨rfl, rfl⟩,
  ⟨rfl, trivial⟩,
  ⟨rfl, _, _, _, _, okc_7 cA _, (by decide : 6 < 44), gw_802 _, trivial, ⟨rfl, Or.inr ⟨_, rfl⟩⟩⟩,
  ⟨rfl, trivial⟩,
  ⟨rfl, _, _, _, _, okc_7 cA _, (by decide : 3 < 44), gw_799 _, trivial, ⟨rfl, rfl⟩⟩,
  ⟨rfl, trivial⟩,
  ⟨rfl, trivial⟩,
  ⟨rfl, trivial⟩,
  ⟨rfl, _, _, _, _, okc_7 cA _, (by decide : 7 < 44), gw_803 _, trivial, ⟨rfl, Or.inr ⟨_, rfl⟩⟩⟩,
  ⟨rfl, trivial⟩,
  ⟨rfl, _, _, _, _, okc_7 cA _, (by decide : 3 < 44), gw_799 _, trivial, ⟨rfl, rfl⟩⟩,
  ⟨rfl, trivial⟩,
  ⟨rfl, trivial⟩,
  ⟨rfl, trivial⟩,
  ⟨rfl, trivial⟩,
  ⟨rfl, _, _, _, _, okc_7 cA _, (by decide : 4 < 44), gw_800 _, trivial, ⟨rfl, rfl⟩⟩,
  ⟨rfl, trivial⟩,
  ⟨rfl, trivial⟩,
  ⟨rfl, _, _, _, _, okc_7 cA _, (by decide : 4 < 44), gw_800 _, Or.inl rfl, ⟨rfl, rfl⟩⟩,
  ⟨rfl, trivial⟩,
  ⟨rfl, trivial⟩,
  ⟨rfl, _, _, _, _, okc_7 cA _, (by decide : 3 < 44), gw_799 _, trivial, ⟨rfl, rfl⟩⟩,
  ⟨rfl, (by decide : Int32.ofInt 1 = 1)⟩,
  ⟨rfl, trivial⟩,
  ⟨rfl, _, _, _, _, okc_7 cA _, (by decide : 3 < 44), gw_799 _, Or.inl rfl, ⟨rfl, rfl⟩⟩,
  ⟨rfl, rfl⟩, trivial⟩⟩
-- PartitionKernelModel.process
set_option maxRecDepth 100000 in
theorem dc_136 : ∀ en ∈ cd_136, decode prog_10_method_39_code en.1 = .ok (en.2.1, en.2.2.1 - en.1) := by decide +kernel
set_option maxRecDepth 100000 in
set_option maxHeartbeats 4000000 in
theorem ok_136 (cA : Nat → ClassId) : mq_okm pg_cl (pg_tys cA) (pg_E cA) pg_Z pg_sw pg_mx pg_X 136 cd_136 := ⟨by decide +kernel, by decide +kernel, mq_ok_of dc_136 ⟨⟨rfl, trivial⟩,
  ⟨rfl, (by decide : 6 < 8)⟩,
  ⟨rfl, trivial⟩,
  ⟨rfl, trivial⟩,
  ⟨rfl, (by decide : Int32.ofInt 4 = 4)⟩,
  ⟨rfl, ⟨okg 101 _ gc_101, gw_52 _, Or.inl (gw_938 _), ⟨by decide +kernel, by decide +kernel, by decide +kernel⟩, by decide +kernel⟩, gw_939 _⟩,
  ⟨rfl, (by decide : ((10 : Nat) : Int) + 7 = ((17 : Nat) : Int))⟩,
  ⟨rfl, (by decide : Int32.ofInt 1 = 1)⟩,
  ⟨rfl, (by decide : ((14 : Nat) : Int) + 60 = ((74 : Nat) : Int))⟩,
  ⟨rfl, trivial⟩,
  ⟨rfl, (by decide : (Int8.ofInt 16).toInt32 = 16)⟩,
  ⟨rfl, ⟨okg 101 _ gc_101, gw_52 _, Or.inl (gw_938 _), ⟨by decide +kernel, by decide +kernel, by decide +kernel⟩, by decide +kernel⟩, gw_939 _⟩,
  ⟨rfl, (by decide : ((23 : Nat) : Int) + 23 = ((46 : Nat) : Int))⟩,
  ⟨rfl, trivial⟩,
  ⟨rfl, gw_945 _⟩,
  ⟨rfl, ⟨okg 101 _ gc_101, gw_52 _, Or.inl (gw_938 _), ⟨by decide +kernel, by decide +kernel, by decide +kernel⟩, by decide +kernel⟩, gw_939 _⟩,
  ⟨rfl, (by decide : ((33 : Nat) : Int) + 13 = ((46 : Nat) : Int))⟩,
  ⟨rfl, trivial⟩,
  ⟨rfl, gw_945 _⟩,
  ⟨rfl, ⟨okg 101 _ gc_101, gw_52 _, Or.inl (gw_938 _), ⟨by decide +kernel, by decide +kernel, by decide +kernel⟩, by decide +kernel⟩, gw_939 _⟩,
  ⟨rfl, (by decide : ((43 : Nat) : Int) + 7 = ((50 : Nat) : Int))⟩,
  ⟨rfl, (by decide : Int32.ofInt 2 = 2)⟩,
  ⟨rfl, (by decide : ((47 : Nat) : Int) + 27 = ((74 : Nat) : Int))⟩,
  ⟨rfl, trivial⟩,
  ⟨rfl, _, _, _, _, okc_7 cA _, (by decide : 1 < 44), gw_797 _, trivial, ⟨rfl, rfl⟩⟩,
  ⟨rfl, (by decide : ((54 : Nat) : Int) + 15 = ((69 : Nat) : Int))⟩,
  ⟨rfl, trivial⟩,
  ⟨rfl, _, _, _, _, okc_7 cA _, (by decide : 11 < 44), gw_807 _, trivial, ⟨rfl, Or.inr ⟨_, rfl⟩⟩⟩,
  ⟨rfl, trivial⟩,
  ⟨rfl, trivial⟩,
  ⟨rfl, (by decide : (Int8.ofInt 8).toInt32 = 8)⟩,
  ⟨rfl, (by decide : ((66 : Nat) : Int) + 7 = ((73 : Nat) : Int))⟩,
  ⟨rfl, (by decide : Int32.ofInt 3 = 3)⟩,
  ⟨rfl, (by decide : ((70 : Nat) : Int) + 4 = ((74 : Nat) : Int))⟩,
  ⟨rfl, (by decide : Int32.ofInt 0 = 0)⟩,
  ⟨rfl, _, _, _, _, okc_7 cA _, (by decide : 0 < 44), gw_796 _, Or.inl rfl, ⟨rfl, rfl⟩⟩,
  ⟨rfl, trivial⟩,
  ⟨rfl, _, _, _, _, okc_7 cA _, (by decide : 0 < 44), gw_796 _, trivial, ⟨rfl, rfl⟩⟩,
  ⟨rfl, (by decide : ((81 : Nat) : Int) + 5 = ((86 : Nat) : Int))⟩,
  ⟨rfl, (by decide : Int32.ofInt 0 = 0)⟩,
  ⟨rfl, Or.inr rfl⟩,
  ⟨rfl, (by decide : (Int8.ofInt 8).toInt32 = 8)⟩,
  ⟨rfl, trivial⟩,
  ⟨rfl, trivial⟩,
  ⟨rfl, trivial⟩,
  ⟨rfl, _, _, _, _, okc_7 cA _, (by decide : 11 < 44), gw_807 _, trivial, ⟨rfl, Or.inr ⟨_, rfl⟩⟩⟩,
  ⟨rfl, trivial⟩,
  ⟨rfl, trivial⟩,
  ⟨rfl, trivial⟩,
  ⟨rfl, (by decide : 7 < 8)⟩,
  ⟨rfl, trivial⟩,
  ⟨rfl, _, _, _, _, okc_7 cA _, (by decide : 14 < 44), gw_810 _, trivial, ⟨rfl, Or.inr ⟨_, rfl⟩⟩⟩,
  ⟨rfl, trivial⟩,
  ⟨rfl, trivial⟩,
  ⟨rfl, trivial⟩,
  ⟨rfl, trivial⟩,
  ⟨rfl, _, _, _, _, okc_7 cA _, (by decide : 15 < 44), gw_811 _, trivial, ⟨rfl, Or.inr ⟨_, rfl⟩⟩⟩,
  ⟨rfl, trivial⟩,
  ⟨rfl, trivial⟩,
  ⟨rfl, trivial⟩,
  ⟨rfl, trivial⟩,
  ⟨rfl, _, _, _, _, okc_7 cA _, (by decide : 16 < 44), gw_812 _, trivial, ⟨rfl, Or.inr ⟨_, rfl⟩⟩⟩,
  ⟨rfl, trivial⟩,
  ⟨rfl, trivial⟩,
  ⟨rfl, trivial⟩,
  ⟨rfl, trivial⟩,
  ⟨rfl, _, _, _, _, okc_7 cA _, (by decide : 17 < 44), gw_813 _, trivial, ⟨rfl, Or.inr ⟨_, rfl⟩⟩⟩,
  ⟨rfl, trivial⟩,
  ⟨rfl, trivial⟩,
  ⟨rfl, trivial⟩,
  ⟨rfl, trivial⟩,
  ⟨rfl, _, _, _, _, okc_7 cA _, (by decide : 11 < 44), gw_807 _, trivial, ⟨rfl, Or.inr ⟨_, rfl⟩⟩⟩,
  ⟨rfl, trivial⟩,
  ⟨rfl, trivial⟩,
  ⟨rfl, trivial⟩,
  ⟨rfl, (by decide : Int32.ofInt 1 = 1)⟩,
  ⟨rfl, trivial⟩,
  ⟨rfl, trivial⟩,
  ⟨rfl, trivial⟩,
  ⟨rfl, _, _, _, _, okc_7 cA _, (by decide : 11 < 44), gw_807 _, trivial, ⟨rfl, Or.inr ⟨_, rfl⟩⟩⟩,
  ⟨rfl, trivial⟩,
  ⟨rfl, trivial⟩,
  ⟨rfl, (by decide : Int32.ofInt 1 = 1)⟩,
  ⟨rfl, trivial⟩,
  ⟨rfl, Or.inr rfl⟩, trivial⟩⟩
end
section
/-! Rows of methods, by program. -/
-- PartitionKernelModel.channel
set_option maxRecDepth 100000 in
theorem dc_137 : ∀ en ∈ cd_137, decode prog_10_method_40_code en.1 = .ok (en.2.1, en.2.2.1 - en.1) := by decide +kernel
set_option maxRecDepth 100000 in
set_option maxHeartbeats 4000000 in
theorem ok_137 (cA : Nat → ClassId) : mq_okm pg_cl (pg_tys cA) (pg_E cA) pg_Z pg_sw pg_mx pg_X 137 cd_137 := ⟨by decide +kernel, by decide +kernel, mq_ok_of dc_137 ⟨⟨rfl, trivial⟩,
  ⟨rfl, trivial⟩,
  ⟨rfl, (by decide : Int32.ofInt 4 = 4)⟩,
  ⟨rfl, ⟨okg 101 _ gc_101, gw_52 _, Or.inl (gw_938 _), ⟨by decide +kernel, by decide +kernel, by decide +kernel⟩, by decide +kernel⟩, gw_939 _⟩,
  ⟨rfl, (by decide : ((6 : Nat) : Int) + 11 = ((17 : Nat) : Int))⟩,
  ⟨rfl, trivial⟩,
  ⟨rfl, (by decide : Int32.ofInt 4 = 4)⟩,
  ⟨rfl, ⟨okg 101 _ gc_101, gw_52 _, Or.inl (gw_938 _), ⟨by decide +kernel, by decide +kernel, by decide +kernel⟩, by decide +kernel⟩, gw_939 _⟩,
  ⟨rfl, (by decide : ((14 : Nat) : Int) + 7 = ((21 : Nat) : Int))⟩,
  ⟨rfl, (by decide : Int32.ofInt 1 = 1)⟩,
  ⟨rfl, (by decide : ((18 : Nat) : Int) + 59 = ((77 : Nat) : Int))⟩,
  ⟨rfl, trivial⟩,
  ⟨rfl, (by decide : ((22 : Nat) : Int) + 16 = ((38 : Nat) : Int))⟩,
  ⟨rfl, trivial⟩,
  ⟨rfl, (by decide : Int32.ofInt 1 = 1)⟩,
  ⟨rfl, (by decide : ((28 : Nat) : Int) + 24 = ((52 : Nat) : Int))⟩,
  ⟨rfl, trivial⟩,
  ⟨rfl, (by decide : (Int8.ofInt 8).toInt32 = 8)⟩,
  ⟨rfl, (by decide : ((35 : Nat) : Int) + 17 = ((52 : Nat) : Int))⟩,
  ⟨rfl, trivial⟩,
  ⟨rfl, (by decide : ((39 : Nat) : Int) + 17 = ((56 : Nat) : Int))⟩,
  ⟨rfl, trivial⟩,
  ⟨rfl, gw_945 _⟩,
  ⟨rfl, ⟨okg 101 _ gc_101, gw_52 _, Or.inl (gw_938 _), ⟨by decide +kernel, by decide +kernel, by decide +kernel⟩, by decide +kernel⟩, gw_939 _⟩,
  ⟨rfl, (by decide : ((49 : Nat) : Int) + 7 = ((56 : Nat) : Int))⟩,
  ⟨rfl, (by decide : Int32.ofInt 2 = 2)⟩,
  ⟨rfl, (by decide : ((53 : Nat) : Int) + 24 = ((77 : Nat) : Int))⟩,
  ⟨rfl, trivial⟩,
  ⟨rfl, _, _, _, _, okc_7 cA _, (by decide : 1 < 44), gw_797 _, trivial, ⟨rfl, rfl⟩⟩,
  ⟨rfl, (by decide : ((60 : Nat) : Int) + 12 = ((72 : Nat) : Int))⟩,
  ⟨rfl, trivial⟩,
  ⟨rfl, _, _, _, _, okc_7 cA _, (by decide : 28 < 44), gw_824 _, trivial, ⟨rfl, rfl⟩⟩,
  ⟨rfl, (by decide : (Int8.ofInt 8).toInt32 = 8)⟩,
  ⟨rfl, (by decide : ((69 : Nat) : Int) + 7 = ((76 : Nat) : Int))⟩,
  ⟨rfl, (by decide : Int32.ofInt 3 = 3)⟩,
  ⟨rfl, (by decide : ((73 : Nat) : Int) + 4 = ((77 : Nat) : Int))⟩,
  ⟨rfl, (by decide : Int32.ofInt 0 = 0)⟩,
  ⟨rfl, _, _, _, _, okc_7 cA _, (by decide : 0 < 44), gw_796 _, Or.inl rfl, ⟨rfl, rfl⟩⟩,
  ⟨rfl, trivial⟩,
  ⟨rfl, _, _, _, _, okc_7 cA _, (by decide : 0 < 44), gw_796 _, trivial, ⟨rfl, rfl⟩⟩,
  ⟨rfl, (by decide : ((84 : Nat) : Int) + 5 = ((89 : Nat) : Int))⟩,
  ⟨rfl, (by decide : Int32.ofInt 0 = 0)⟩,
  ⟨rfl, Or.inr rfl⟩,
  ⟨rfl, trivial⟩,
  ⟨rfl, _, _, _, _, okc_7 cA _, (by decide : 29 < 44), gw_825 _, trivial, ⟨rfl, Or.inr ⟨_, rfl⟩⟩⟩,
  ⟨rfl, trivial⟩,
  ⟨rfl, _, _, _, _, okc_7 cA _, (by decide : 28 < 44), gw_824 _, trivial, ⟨rfl, rfl⟩⟩,
  ⟨rfl, trivial⟩,
  ⟨rfl, trivial⟩,
  ⟨rfl, trivial⟩,
  ⟨rfl, _, _, _, _, okc_7 cA _, (by decide : 30 < 44), gw_826 _, trivial, ⟨rfl, Or.inr ⟨_, rfl⟩⟩⟩,
  ⟨rfl, trivial⟩,
  ⟨rfl, _, _, _, _, okc_7 cA _, (by decide : 28 < 44), gw_824 _, trivial, ⟨rfl, rfl⟩⟩,
  ⟨rfl, trivial⟩,
  ⟨rfl, trivial⟩,
  ⟨rfl, trivial⟩,
  ⟨rfl, _, _, _, _, okc_7 cA _, (by decide : 31 < 44), gw_827 _, trivial, ⟨rfl, Or.inr ⟨_, rfl⟩⟩⟩,
  ⟨rfl, trivial⟩,
  ⟨rfl, _, _, _, _, okc_7 cA _, (by decide : 28 < 44), gw_824 _, trivial, ⟨rfl, rfl⟩⟩,
  ⟨rfl, trivial⟩,
  ⟨rfl, trivial⟩,
  ⟨rfl, trivial⟩,
  ⟨rfl, _, _, _, _, okc_7 cA _, (by decide : 32 < 44), gw_828 _, trivial, ⟨rfl, Or.inr ⟨_, rfl⟩⟩⟩,
  ⟨rfl, trivial⟩,
  ⟨rfl, _, _, _, _, okc_7 cA _, (by decide : 28 < 44), gw_824 _, trivial, ⟨rfl, rfl⟩⟩,
  ⟨rfl, trivial⟩,
  ⟨rfl, trivial⟩,
  ⟨rfl, trivial⟩,
  ⟨rfl, trivial⟩,
  ⟨rfl, _, _, _, _, okc_7 cA _, (by decide : 28 < 44), gw_824 _, trivial, ⟨rfl, rfl⟩⟩,
  ⟨rfl, (by decide : Int32.ofInt 1 = 1)⟩,
  ⟨rfl, trivial⟩,
  ⟨rfl, _, _, _, _, okc_7 cA _, (by decide : 28 < 44), gw_824 _, Or.inl rfl, ⟨rfl, rfl⟩⟩,
  ⟨rfl, trivial⟩,
  ⟨rfl, _, _, _, _, okc_7 cA _, (by decide : 28 < 44), gw_824 _, trivial, ⟨rfl, rfl⟩⟩,
  ⟨rfl, (by decide : Int32.ofInt 1 = 1)⟩,
  ⟨rfl, trivial⟩,
  ⟨rfl, Or.inr rfl⟩, trivial⟩⟩
-- PartitionKernelModel.action
set_option maxRecDepth 100000 in
theorem dc_138 : ∀ en ∈ cd_138, decode prog_10_method_41_code en.1 = .ok (en.2.1, en.2.2.1 - en.1) := by decide +kernel
set_option maxRecDepth 100000 in
set_option maxHeartbeats 4000000 in
theorem ok_138 (cA : Nat → ClassId) : mq_okm pg_cl (pg_tys cA) (pg_E cA) pg_Z pg_sw pg_mx pg_X 138 cd_138 := ⟨by decide +kernel, by decide +kernel, mq_ok_of dc_138 ⟨⟨rfl, trivial⟩,
  ⟨rfl, trivial⟩,
  ⟨rfl, (by decide : Int32.ofInt 4 = 4)⟩,
  ⟨rfl, ⟨okg 101 _ gc_101, gw_52 _, Or.inl (gw_938 _), ⟨by decide +kernel, by decide +kernel, by decide +kernel⟩, by decide +kernel⟩, gw_939 _⟩,
  ⟨rfl, (by decide : ((6 : Nat) : Int) + 11 = ((17 : Nat) : Int))⟩,
  ⟨rfl, trivial⟩,
  ⟨rfl, (by decide : Int32.ofInt 4 = 4)⟩,
  ⟨rfl, ⟨okg 101 _ gc_101, gw_52 _, Or.inl (gw_938 _), ⟨by decide +kernel, by decide +kernel, by decide +kernel⟩, by decide +kernel⟩, gw_939 _⟩,
  ⟨rfl, (by decide : ((14 : Nat) : Int) + 7 = ((21 : Nat) : Int))⟩,
  ⟨rfl, (by decide : Int32.ofInt 1 = 1)⟩,
  ⟨rfl, (by decide : ((18 : Nat) : Int) + 16 = ((34 : Nat) : Int))⟩,
  ⟨rfl, trivial⟩,
  ⟨rfl, (by decide : Int32.ofInt 5 = 5)⟩,
  ⟨rfl, ⟨okg 101 _ gc_101, gw_52 _, Or.inl (gw_938 _), ⟨by decide +kernel, by decide +kernel, by decide +kernel⟩, by decide +kernel⟩, gw_939 _⟩,
  ⟨rfl, (by decide : ((26 : Nat) : Int) + 7 = ((33 : Nat) : Int))⟩,
  ⟨rfl, (by decide : Int32.ofInt 2 = 2)⟩,
  ⟨rfl, (by decide : ((30 : Nat) : Int) + 4 = ((34 : Nat) : Int))⟩,
  ⟨rfl, (by decide : Int32.ofInt 0 = 0)⟩,
  ⟨rfl, _, _, _, _, okc_7 cA _, (by decide : 0 < 44), gw_796 _, Or.inl rfl, ⟨rfl, rfl⟩⟩,
  ⟨rfl, trivial⟩,
  ⟨rfl, _, _, _, _, okc_7 cA _, (by decide : 0 < 44), gw_796 _, trivial, ⟨rfl, rfl⟩⟩,
  ⟨rfl, (by decide : ((41 : Nat) : Int) + 14 = ((55 : Nat) : Int))⟩,
  ⟨rfl, trivial⟩,
  ⟨rfl, _, _, _, _, okc_7 cA _, (by decide : 9 < 44), gw_805 _, trivial, ⟨rfl, Or.inr ⟨_, rfl⟩⟩⟩,
  ⟨rfl, (by decide : Int32.ofInt 4 = 4)⟩,
  ⟨rfl, trivial⟩,
  ⟨rfl, trivial⟩,
  ⟨rfl, trivial⟩,
  ⟨rfl, trivial⟩,
  ⟨rfl, trivial⟩,
  ⟨rfl, trivial⟩,
  ⟨rfl, rfl⟩, trivial⟩⟩
-- PartitionKernelModel.poke
set_option maxRecDepth 100000 in
theorem dc_139 : ∀ en ∈ cd_139, decode prog_10_method_42_code en.1 = .ok (en.2.1, en.2.2.1 - en.1) := by decide +kernel
set_option maxRecDepth 100000 in
set_option maxHeartbeats 4000000 in
theorem ok_139 (cA : Nat → ClassId) : mq_okm pg_cl (pg_tys cA) (pg_E cA) pg_Z pg_sw pg_mx pg_X 139 cd_139 := ⟨by decide +kernel, by decide +kernel, mq_ok_of dc_139 ⟨⟨rfl, trivial⟩,
  ⟨rfl, trivial⟩,
  ⟨rfl, (by decide : Int32.ofInt 4 = 4)⟩,
  ⟨rfl, ⟨okg 101 _ gc_101, gw_52 _, Or.inl (gw_938 _), ⟨by decide +kernel, by decide +kernel, by decide +kernel⟩, by decide +kernel⟩, gw_939 _⟩,
  ⟨rfl, (by decide : ((6 : Nat) : Int) + 11 = ((17 : Nat) : Int))⟩,
  ⟨rfl, trivial⟩,
  ⟨rfl, (by decide : Int32.ofInt 4 = 4)⟩,
  ⟨rfl, ⟨okg 107 _ gc_107, gw_52 _, Or.inl (gw_958 _), ⟨by decide +kernel, by decide +kernel, by decide +kernel⟩, by decide +kernel⟩, gw_959 _⟩,
  ⟨rfl, (by decide : ((14 : Nat) : Int) + 7 = ((21 : Nat) : Int))⟩,
  ⟨rfl, (by decide : Int32.ofInt 1 = 1)⟩,
  ⟨rfl, (by decide : ((18 : Nat) : Int) + 4 = ((22 : Nat) : Int))⟩,
  ⟨rfl, (by decide : Int32.ofInt 0 = 0)⟩,
  ⟨rfl, _, _, _, _, okc_7 cA _, (by decide : 0 < 44), gw_796 _, Or.inl rfl, ⟨rfl, rfl⟩⟩,
  ⟨rfl, trivial⟩,
  ⟨rfl, _, _, _, _, okc_7 cA _, (by decide : 0 < 44), gw_796 _, trivial, ⟨rfl, rfl⟩⟩,
  ⟨rfl, (by decide : ((29 : Nat) : Int) + 11 = ((40 : Nat) : Int))⟩,
  ⟨rfl, trivial⟩,
  ⟨rfl, trivial⟩,
  ⟨rfl, trivial⟩,
  ⟨rfl, (by decide : Int32.ofInt 4 = 4)⟩,
  ⟨rfl, trivial⟩,
  ⟨rfl, 4, _, rfl, ⟨okg 109 _ gc_109, gw_52 _, gw_961 _, ⟨by decide +kernel, by decide +kernel, by decide +kernel⟩, by decide +kernel⟩, gw_963 _, rfl, gw_15 _⟩,
  ⟨rfl, rfl⟩, trivial⟩⟩
-- PartitionKernelModel.begin
set_option maxRecDepth 100000 in
theorem dc_140 : ∀ en ∈ cd_140, decode prog_10_method_43_code en.1 = .ok (en.2.1, en.2.2.1 - en.1) := by decide +kernel
set_option maxRecDepth 100000 in
set_option maxHeartbeats 4000000 in
theorem ok_140 (cA : Nat → ClassId) : mq_okm pg_cl (pg_tys cA) (pg_E cA) pg_Z pg_sw pg_mx pg_X 140 cd_140 := ⟨by decide +kernel, by decide +kernel, mq_ok_of dc_140 ⟨⟨rfl, trivial⟩,
  ⟨rfl, trivial⟩,
  ⟨rfl, _, _, _, _, okc_7 cA _, (by decide : 1 < 44), gw_797 _, trivial, ⟨rfl, rfl⟩⟩,
  ⟨rfl, (by decide : ((5 : Nat) : Int) + 10 = ((15 : Nat) : Int))⟩,
  ⟨rfl, trivial⟩,
  ⟨rfl, _, _, _, _, okc_7 cA _, (by decide : 3 < 44), gw_799 _, trivial, ⟨rfl, rfl⟩⟩,
  ⟨rfl, (by decide : ((12 : Nat) : Int) + 7 = ((19 : Nat) : Int))⟩,
  ⟨rfl, (by decide : Int32.ofInt 1 = 1)⟩,
  ⟨rfl, (by decide : ((16 : Nat) : Int) + 4 = ((20 : Nat) : Int))⟩,
  ⟨rfl, (by decide : Int32.ofInt 0 = 0)⟩,
  ⟨rfl, _, _, _, _, okc_7 cA _, (by decide : 0 < 44), gw_796 _, Or.inl rfl, ⟨rfl, rfl⟩⟩,
  ⟨rfl, trivial⟩,
  ⟨rfl, _, _, _, _, okc_7 cA _, (by decide : 0 < 44), gw_796 _, trivial, ⟨rfl, rfl⟩⟩,
  ⟨rfl, (by decide : ((27 : Nat) : Int) + 4 = ((31 : Nat) : Int))⟩,
  ⟨rfl, rfl⟩,
  ⟨rfl, trivial⟩,
  ⟨rfl, (by decide : Int32.ofInt 1 = 1)⟩,
  ⟨rfl, _, _, _, _, okc_7 cA _, (by decide : 1 < 44), gw_797 _, Or.inl rfl, ⟨rfl, rfl⟩⟩,
  ⟨rfl, (by decide : Int32.ofInt 0 = 0)⟩,
  ⟨rfl, (by decide : 1 < 3)⟩,
  ⟨rfl, trivial⟩,
  ⟨rfl, (by decide : Int32.ofInt 4 = 4)⟩,
  ⟨rfl, (by decide : ((40 : Nat) : Int) + 37 = ((77 : Nat) : Int))⟩,
  ⟨rfl, (by decide : Int32.ofInt 0 = 0)⟩,
  ⟨rfl, (by decide : 2 < 3)⟩,
  ⟨rfl, trivial⟩,
  ⟨rfl, trivial⟩,
  ⟨rfl, _, _, _, _, okc_7 cA _, (by decide : 11 < 44), gw_807 _, trivial, ⟨rfl, Or.inr ⟨_, rfl⟩⟩⟩,
  ⟨rfl, trivial⟩,
  ⟨rfl, trivial⟩,
  ⟨rfl, (by decide : ((52 : Nat) : Int) + 19 = ((71 : Nat) : Int))⟩,
  ⟨rfl, trivial⟩,
  ⟨rfl, (by decide : (Int8.ofInt 8).toInt32 = 8)⟩,
  ⟨rfl, trivial⟩,
  ⟨rfl, trivial⟩,
  ⟨rfl, trivial⟩,
  ⟨rfl, trivial⟩,
  ⟨rfl, 1, _, rfl, ⟨okg 103 _ gc_103, gw_52 _, gw_969 _, ⟨by decide +kernel, by decide +kernel, by decide +kernel⟩, by decide +kernel⟩, gw_971 _, rfl, gw_16 _⟩,
  ⟨rfl, (by decide : 2 < 3), (by decide : Int32.ofInt 1 = 1)⟩,
  ⟨rfl, (by decide : ((68 : Nat) : Int) + (-23) = ((45 : Nat) : Int))⟩,
  ⟨rfl, (by decide : 1 < 3), (by decide : Int32.ofInt 1 = 1)⟩,
  ⟨rfl, (by decide : ((74 : Nat) : Int) + (-36) = ((38 : Nat) : Int))⟩,
  ⟨rfl, rfl⟩, trivial⟩⟩
-- PartitionKernelModel.run
set_option maxRecDepth 100000 in
theorem dc_141 : ∀ en ∈ cd_141, decode prog_10_method_44_code en.1 = .ok (en.2.1, en.2.2.1 - en.1) := by decide +kernel
set_option maxRecDepth 100000 in
set_option maxHeartbeats 4000000 in
theorem ok_141 (cA : Nat → ClassId) : mq_okm pg_cl (pg_tys cA) (pg_E cA) pg_Z pg_sw pg_mx pg_X 141 cd_141 := ⟨by decide +kernel, by decide +kernel, mq_ok_of dc_141 ⟨⟨rfl, trivial⟩,
  ⟨rfl, trivial⟩,
  ⟨rfl, _, _, _, _, okc_7 cA _, (by decide : 1 < 44), gw_797 _, trivial, ⟨rfl, rfl⟩⟩,
  ⟨rfl, (by decide : ((5 : Nat) : Int) + 7 = ((12 : Nat) : Int))⟩,
  ⟨rfl, (by decide : Int32.ofInt 2 = 2)⟩,
  ⟨rfl, (by decide : ((9 : Nat) : Int) + 18 = ((27 : Nat) : Int))⟩,
  ⟨rfl, trivial⟩,
  ⟨rfl, (by decide : (Int16.ofInt 501).toInt32 = 501)⟩,
  ⟨rfl, ⟨okg 101 _ gc_101, gw_52 _, Or.inl (gw_938 _), ⟨by decide +kernel, by decide +kernel, by decide +kernel⟩, by decide +kernel⟩, gw_939 _⟩,
  ⟨rfl, (by decide : ((19 : Nat) : Int) + 7 = ((26 : Nat) : Int))⟩,
  ⟨rfl, (by decide : Int32.ofInt 1 = 1)⟩,
  ⟨rfl, (by decide : ((23 : Nat) : Int) + 4 = ((27 : Nat) : Int))⟩,
  ⟨rfl, (by decide : Int32.ofInt 0 = 0)⟩,
  ⟨rfl, _, _, _, _, okc_7 cA _, (by decide : 0 < 44), gw_796 _, Or.inl rfl, ⟨rfl, rfl⟩⟩,
  ⟨rfl, (by decide : Int32.ofInt 0 = 0)⟩,
  ⟨rfl, (by decide : 2 < 4)⟩,
  ⟨rfl, (by decide : Int32.ofInt 0 = 0)⟩,
  ⟨rfl, (by decide : 3 < 4)⟩,
  ⟨rfl, trivial⟩,
  ⟨rfl, trivial⟩,
  ⟨rfl, (by decide : ((36 : Nat) : Int) + 23 = ((59 : Nat) : Int))⟩,
  ⟨rfl, trivial⟩,
  ⟨rfl, _, _, _, _, okc_7 cA _, (by decide : 0 < 44), gw_796 _, trivial, ⟨rfl, rfl⟩⟩,
  ⟨rfl, (by decide : ((43 : Nat) : Int) + 16 = ((59 : Nat) : Int))⟩,
  ⟨rfl, trivial⟩,
  ⟨rfl, trivial⟩,
  ⟨rfl, 0, _, rfl, ⟨okg 134 _ gc_134, gw_52 _, gw_981 _, ⟨by decide +kernel, by decide +kernel, by decide +kernel⟩, by decide +kernel⟩, gw_983 _, rfl, gw_18 _⟩,
  ⟨rfl, trivial⟩,
  ⟨rfl, (by decide : 2 < 4)⟩,
  ⟨rfl, (by decide : 3 < 4), (by decide : Int32.ofInt 1 = 1)⟩,
  ⟨rfl, (by decide : ((56 : Nat) : Int) + (-22) = ((34 : Nat) : Int))⟩,
  ⟨rfl, trivial⟩,
  ⟨rfl, Or.inr rfl⟩, trivial⟩⟩
-- PartitionKernelModel.peek
set_option maxRecDepth 100000 in
theorem dc_142 : ∀ en ∈ cd_142, decode prog_10_method_45_code en.1 = .ok (en.2.1, en.2.2.1 - en.1) := by decide +kernel
set_option maxRecDepth 100000 in
set_option maxHeartbeats 4000000 in
theorem ok_142 (cA : Nat → ClassId) : mq_okm pg_cl (pg_tys cA) (pg_E cA) pg_Z pg_sw pg_mx pg_X 142 cd_142 := ⟨by decide +kernel, by decide +kernel, mq_ok_of dc_142 ⟨⟨rfl, trivial⟩,
  ⟨rfl, (by decide : Int32.ofInt 0 = 0)⟩,
  ⟨rfl, _, _, _, _, okc_7 cA _, (by decide : 0 < 44), gw_796 _, Or.inl rfl, ⟨rfl, rfl⟩⟩,
  ⟨rfl, trivial⟩,
  ⟨rfl, (by decide : Int32.ofInt 4 = 4)⟩,
  ⟨rfl, ⟨okg 101 _ gc_101, gw_52 _, Or.inl (gw_938 _), ⟨by decide +kernel, by decide +kernel, by decide +kernel⟩, by decide +kernel⟩, gw_939 _⟩,
  ⟨rfl, (by decide : ((10 : Nat) : Int) + 21 = ((31 : Nat) : Int))⟩,
  ⟨rfl, trivial⟩,
  ⟨rfl, (by decide : Int32.ofInt 4 = 4)⟩,
  ⟨rfl, ⟨okg 107 _ gc_107, gw_52 _, Or.inl (gw_958 _), ⟨by decide +kernel, by decide +kernel, by decide +kernel⟩, by decide +kernel⟩, gw_959 _⟩,
  ⟨rfl, (by decide : ((18 : Nat) : Int) + 13 = ((31 : Nat) : Int))⟩,
  ⟨rfl, trivial⟩,
  ⟨rfl, trivial⟩,
  ⟨rfl, trivial⟩,
  ⟨rfl, (by decide : Int32.ofInt 4 = 4)⟩,
  ⟨rfl, 3, _, rfl, ⟨okg 108 _ gc_108, gw_52 _, gw_1013 _, ⟨by decide +kernel, by decide +kernel, by decide +kernel⟩, by decide +kernel⟩, gw_1015 _, rfl, gw_26 _⟩,
  ⟨rfl, (by decide : ((28 : Nat) : Int) + 4 = ((32 : Nat) : Int))⟩,
  ⟨rfl, (by decide : Int32.ofInt 0 = 0)⟩,
  ⟨rfl, Or.inr rfl⟩, trivial⟩⟩
-- PartitionKernelModel.isProcess
set_option maxRecDepth 100000 in
theorem dc_143 : ∀ en ∈ cd_143, decode prog_10_method_46_code en.1 = .ok (en.2.1, en.2.2.1 - en.1) := by decide +kernel
set_option maxRecDepth 100000 in
set_option maxHeartbeats 4000000 in
theorem ok_143 (cA : Nat → ClassId) : mq_okm pg_cl (pg_tys cA) (pg_E cA) pg_Z pg_sw pg_mx pg_X 143 cd_143 := ⟨by decide +kernel, by decide +kernel, mq_ok_of dc_143 ⟨⟨rfl, trivial⟩,
  ⟨rfl, (by decide : Int32.ofInt 4 = 4)⟩,
  ⟨rfl, ⟨okg 101 _ gc_101, gw_52 _, Or.inl (gw_938 _), ⟨by decide +kernel, by decide +kernel, by decide +kernel⟩, by decide +kernel⟩, gw_939 _⟩,
  ⟨rfl, (by decide : ((5 : Nat) : Int) + 20 = ((25 : Nat) : Int))⟩,
  ⟨rfl, trivial⟩,
  ⟨rfl, trivial⟩,
  ⟨rfl, _, _, _, _, okc_7 cA _, (by decide : 11 < 44), gw_807 _, trivial, ⟨rfl, Or.inr ⟨_, rfl⟩⟩⟩,
  ⟨rfl, trivial⟩,
  ⟨rfl, trivial⟩,
  ⟨rfl, ⟨okg 101 _ gc_101, gw_52 _, Or.inl (gw_938 _), ⟨by decide +kernel, by decide +kernel, by decide +kernel⟩, by decide +kernel⟩, gw_939 _⟩,
  ⟨rfl, (by decide : ((18 : Nat) : Int) + 7 = ((25 : Nat) : Int))⟩,
  ⟨rfl, (by decide : Int32.ofInt 1 = 1)⟩,
  ⟨rfl, (by decide : ((22 : Nat) : Int) + 4 = ((26 : Nat) : Int))⟩,
  ⟨rfl, (by decide : Int32.ofInt 0 = 0)⟩,
  ⟨rfl, Or.inl ⟨rfl, rfl⟩⟩, trivial⟩⟩
-- PartitionKernelModel.register
set_option maxRecDepth 100000 in
theorem dc_144 : ∀ en ∈ cd_144, decode prog_10_method_47_code en.1 = .ok (en.2.1, en.2.2.1 - en.1) := by decide +kernel
set_option maxRecDepth 100000 in
set_option maxHeartbeats 4000000 in
theorem ok_144 (cA : Nat → ClassId) : mq_okm pg_cl (pg_tys cA) (pg_E cA) pg_Z pg_sw pg_mx pg_X 144 cd_144 := ⟨by decide +kernel, by decide +kernel, mq_ok_of dc_144 ⟨⟨rfl, trivial⟩,
  ⟨rfl, (by decide : Int32.ofInt 0 = 0)⟩,
  ⟨rfl, _, _, _, _, okc_7 cA _, (by decide : 0 < 44), gw_796 _, Or.inl rfl, ⟨rfl, rfl⟩⟩,
  ⟨rfl, trivial⟩,
  ⟨rfl, trivial⟩,
  ⟨rfl, trivial⟩,
  ⟨rfl, 2, _, rfl, ⟨okg 143 _ gc_143, gw_52 _, gw_1102 _, ⟨by decide +kernel, by decide +kernel, by decide +kernel⟩, by decide +kernel⟩, gw_1104 _, rfl, gw_43 _⟩,
  ⟨rfl, (by decide : ((11 : Nat) : Int) + 31 = ((42 : Nat) : Int))⟩,
  ⟨rfl, trivial⟩,
  ⟨rfl, (by decide : (Int8.ofInt 32).toInt32 = 32)⟩,
  ⟨rfl, ⟨okg 101 _ gc_101, gw_52 _, Or.inl (gw_938 _), ⟨by decide +kernel, by decide +kernel, by decide +kernel⟩, by decide +kernel⟩, gw_939 _⟩,
  ⟨rfl, (by decide : ((20 : Nat) : Int) + 22 = ((42 : Nat) : Int))⟩,
  ⟨rfl, trivial⟩,
  ⟨rfl, _, _, _, _, okc_7 cA _, (by decide : 26 < 44), gw_822 _, trivial, ⟨rfl, Or.inr ⟨_, rfl⟩⟩⟩,
  ⟨rfl, (by decide : (Int8.ofInt 32).toInt32 = 32)⟩,
  ⟨rfl, (by decide : (Int8.ofInt 8).toInt32 = 8)⟩,
  ⟨rfl, trivial⟩,
  ⟨rfl, trivial⟩,
  ⟨rfl, trivial⟩,
  ⟨rfl, trivial⟩,
  ⟨rfl, trivial⟩,
  ⟨rfl, trivial⟩,
  ⟨rfl, trivial⟩,
  ⟨rfl, trivial⟩,
  ⟨rfl, (by decide : ((39 : Nat) : Int) + 4 = ((43 : Nat) : Int))⟩,
  ⟨rfl, (by decide : Int32.ofInt 0 = 0)⟩,
  ⟨rfl, Or.inr rfl⟩, trivial⟩⟩
-- PartitionKernelModel.state
set_option maxRecDepth 100000 in
theorem dc_145 : ∀ en ∈ cd_145, decode prog_10_method_48_code en.1 = .ok (en.2.1, en.2.2.1 - en.1) := by decide +kernel
set_option maxRecDepth 100000 in
set_option maxHeartbeats 4000000 in
theorem ok_145 (cA : Nat → ClassId) : mq_okm pg_cl (pg_tys cA) (pg_E cA) pg_Z pg_sw pg_mx pg_X 145 cd_145 := ⟨by decide +kernel, by decide +kernel, mq_ok_of dc_145 ⟨⟨rfl, trivial⟩,
  ⟨rfl, (by decide : Int32.ofInt 0 = 0)⟩,
  ⟨rfl, _, _, _, _, okc_7 cA _, (by decide : 0 < 44), gw_796 _, Or.inl rfl, ⟨rfl, rfl⟩⟩,
  ⟨rfl, trivial⟩,
  ⟨rfl, trivial⟩,
  ⟨rfl, trivial⟩,
  ⟨rfl, 2, _, rfl, ⟨okg 143 _ gc_143, gw_52 _, gw_1102 _, ⟨by decide +kernel, by decide +kernel, by decide +kernel⟩, by decide +kernel⟩, gw_1104 _, rfl, gw_43 _⟩,
  ⟨rfl, (by decide : ((11 : Nat) : Int) + 5 = ((16 : Nat) : Int))⟩,
  ⟨rfl, (by decide : Int32.ofInt (-1) = (-1))⟩,
  ⟨rfl, Or.inr rfl⟩,
  ⟨rfl, (by decide : (Int8.ofInt 8).toInt32 = 8)⟩,
  ⟨rfl, trivial⟩,
  ⟨rfl, trivial⟩,
  ⟨rfl, trivial⟩,
  ⟨rfl, trivial⟩,
  ⟨rfl, (by decide : 4 < 5)⟩,
  ⟨rfl, trivial⟩,
  ⟨by decide, by decide, by decide, by decide, by decide, by decide, by decide, by decide, by decide, by decide, by decide, by decide, by decide, by decide, by decide, by decide, by decide, by decide, trivial⟩,
  ⟨rfl, trivial⟩,
  ⟨rfl, _, _, _, _, okc_7 cA _, (by decide : 19 < 44), gw_815 _, trivial, ⟨rfl, Or.inr ⟨_, rfl⟩⟩⟩,
  ⟨rfl, trivial⟩,
  ⟨rfl, trivial⟩,
  ⟨rfl, Or.inr rfl⟩,
  ⟨rfl, trivial⟩,
  ⟨rfl, _, _, _, _, okc_7 cA _, (by decide : 18 < 44), gw_814 _, trivial, ⟨rfl, Or.inr ⟨_, rfl⟩⟩⟩,
  ⟨rfl, trivial⟩,
  ⟨rfl, trivial⟩,
  ⟨rfl, Or.inr rfl⟩,
  ⟨rfl, trivial⟩,
  ⟨rfl, _, _, _, _, okc_7 cA _, (by decide : 15 < 44), gw_811 _, trivial, ⟨rfl, Or.inr ⟨_, rfl⟩⟩⟩,
  ⟨rfl, trivial⟩,
  ⟨rfl, trivial⟩,
  ⟨rfl, Or.inr rfl⟩,
  ⟨rfl, trivial⟩,
  ⟨rfl, _, _, _, _, okc_7 cA _, (by decide : 20 < 44), gw_816 _, trivial, ⟨rfl, Or.inr ⟨_, rfl⟩⟩⟩,
  ⟨rfl, trivial⟩,
  ⟨rfl, trivial⟩,
  ⟨rfl, Or.inr rfl⟩,
  ⟨rfl, trivial⟩,
  ⟨rfl, _, _, _, _, okc_7 cA _, (by decide : 21 < 44), gw_817 _, trivial, ⟨rfl, Or.inr ⟨_, rfl⟩⟩⟩,
  ⟨rfl, trivial⟩,
  ⟨rfl, trivial⟩,
  ⟨rfl, Or.inr rfl⟩,
  ⟨rfl, trivial⟩,
  ⟨rfl, _, _, _, _, okc_7 cA _, (by decide : 22 < 44), gw_818 _, trivial, ⟨rfl, Or.inr ⟨_, rfl⟩⟩⟩,
  ⟨rfl, trivial⟩,
  ⟨rfl, trivial⟩,
  ⟨rfl, Or.inr rfl⟩,
  ⟨rfl, trivial⟩,
  ⟨rfl, _, _, _, _, okc_7 cA _, (by decide : 24 < 44), gw_820 _, trivial, ⟨rfl, Or.inr ⟨_, rfl⟩⟩⟩,
  ⟨rfl, trivial⟩,
  ⟨rfl, trivial⟩,
  ⟨rfl, Or.inr rfl⟩,
  ⟨rfl, trivial⟩,
  ⟨rfl, _, _, _, _, okc_7 cA _, (by decide : 25 < 44), gw_821 _, trivial, ⟨rfl, Or.inr ⟨_, rfl⟩⟩⟩,
  ⟨rfl, trivial⟩,
  ⟨rfl, trivial⟩,
  ⟨rfl, Or.inr rfl⟩,
  ⟨rfl, (by decide : Int32.ofInt (-1) = (-1))⟩,
  ⟨rfl, Or.inr rfl⟩, trivial⟩⟩
-- PartitionKernelModel.partition
set_option maxRecDepth 100000 in
theorem dc_146 : ∀ en ∈ cd_146, decode prog_10_method_49_code en.1 = .ok (en.2.1, en.2.2.1 - en.1) := by decide +kernel
set_option maxRecDepth 100000 in
set_option maxHeartbeats 4000000 in
theorem ok_146 (cA : Nat → ClassId) : mq_okm pg_cl (pg_tys cA) (pg_E cA) pg_Z pg_sw pg_mx pg_X 146 cd_146 := ⟨by decide +kernel, by decide +kernel, mq_ok_of dc_146 ⟨⟨rfl, trivial⟩,
  ⟨rfl, (by decide : Int32.ofInt 0 = 0)⟩,
  ⟨rfl, _, _, _, _, okc_7 cA _, (by decide : 0 < 44), gw_796 _, Or.inl rfl, ⟨rfl, rfl⟩⟩,
  ⟨rfl, trivial⟩,
  ⟨rfl, (by decide : 3 < 5)⟩,
  ⟨rfl, trivial⟩,
  ⟨rfl, (by decide : Int32.ofInt 4 = 4)⟩,
  ⟨rfl, ⟨okg 101 _ gc_101, gw_52 _, Or.inl (gw_938 _), ⟨by decide +kernel, by decide +kernel, by decide +kernel⟩, by decide +kernel⟩, gw_939 _⟩,
  ⟨rfl, (by decide : ((12 : Nat) : Int) + 12 = ((24 : Nat) : Int))⟩,
  ⟨rfl, trivial⟩,
  ⟨rfl, (by decide : (Int8.ofInt 8).toInt32 = 8)⟩,
  ⟨rfl, ⟨okg 101 _ gc_101, gw_52 _, Or.inl (gw_938 _), ⟨by decide +kernel, by decide +kernel, by decide +kernel⟩, by decide +kernel⟩, gw_939 _⟩,
  ⟨rfl, (by decide : ((21 : Nat) : Int) + 5 = ((26 : Nat) : Int))⟩,
  ⟨rfl, (by decide : Int32.ofInt (-1) = (-1))⟩,
  ⟨rfl, Or.inr rfl⟩,
  ⟨rfl, trivial⟩,
  ⟨rfl, (by decide : Int32.ofInt 3 = 3)⟩,
  ⟨rfl, (by decide : ((28 : Nat) : Int) + 16 = ((44 : Nat) : Int))⟩,
  ⟨rfl, trivial⟩,
  ⟨rfl, _, _, _, _, okc_7 cA _, (by decide : 10 < 44), gw_806 _, trivial, ⟨rfl, Or.inr ⟨_, rfl⟩⟩⟩,
  ⟨rfl, (by decide : Int32.ofInt 4 = 4)⟩,
  ⟨rfl, trivial⟩,
  ⟨rfl, trivial⟩,
  ⟨rfl, trivial⟩,
  ⟨rfl, trivial⟩,
  ⟨rfl, (by decide : Int32.ofInt 4 = 4)⟩,
  ⟨rfl, trivial⟩,
  ⟨rfl, trivial⟩,
  ⟨rfl, Or.inr rfl⟩,
  ⟨rfl, trivial⟩,
  ⟨rfl, trivial⟩,
  ⟨rfl, 1, _, rfl, ⟨okg 133 _ gc_133, gw_52 _, gw_1009 _, ⟨by decide +kernel, by decide +kernel, by decide +kernel⟩, by decide +kernel⟩, gw_1011 _, rfl, gw_25 _⟩,
  ⟨rfl, (by decide : 4 < 5)⟩,
  ⟨rfl, trivial⟩,
  ⟨rfl, (by decide : ((52 : Nat) : Int) + 20 = ((72 : Nat) : Int))⟩,
  ⟨rfl, trivial⟩,
  ⟨rfl, _, _, _, _, okc_7 cA _, (by decide : 13 < 44), gw_809 _, trivial, ⟨rfl, Or.inr ⟨_, rfl⟩⟩⟩,
  ⟨rfl, trivial⟩,
  ⟨rfl, trivial⟩,
  ⟨rfl, (by decide : ((61 : Nat) : Int) + 7 = ((68 : Nat) : Int))⟩,
  ⟨rfl, (by decide : Int32.ofInt 1 = 1)⟩,
  ⟨rfl, (by decide : ((65 : Nat) : Int) + 50 = ((115 : Nat) : Int))⟩,
  ⟨rfl, (by decide : Int32.ofInt 0 = 0)⟩,
  ⟨rfl, (by decide : ((69 : Nat) : Int) + 46 = ((115 : Nat) : Int))⟩,
  ⟨rfl, trivial⟩,
  ⟨rfl, (by decide : Int32.ofInt 1 = 1)⟩,
  ⟨rfl, (by decide : ((74 : Nat) : Int) + 12 = ((86 : Nat) : Int))⟩,
  ⟨rfl, trivial⟩,
  ⟨rfl, _, _, _, _, okc_7 cA _, (by decide : 11 < 44), gw_807 _, trivial, ⟨rfl, Or.inr ⟨_, rfl⟩⟩⟩,
  ⟨rfl, trivial⟩,
  ⟨rfl, trivial⟩,
  ⟨rfl, (by decide : ((83 : Nat) : Int) + 32 = ((115 : Nat) : Int))⟩,
  ⟨rfl, trivial⟩,
  ⟨rfl, (by decide : Int32.ofInt 2 = 2)⟩,
  ⟨rfl, (by decide : ((88 : Nat) : Int) + 21 = ((109 : Nat) : Int))⟩,
  ⟨rfl, trivial⟩,
  ⟨rfl, (by decide : Int32.ofInt (-1) = (-1))⟩,
  ⟨rfl, (by decide : ((94 : Nat) : Int) + 7 = ((101 : Nat) : Int))⟩,
  ⟨rfl, (by decide : Int32.ofInt (-1) = (-1))⟩,
  ⟨rfl, (by decide : ((98 : Nat) : Int) + 17 = ((115 : Nat) : Int))⟩,
  ⟨rfl, trivial⟩,
  ⟨rfl, (by decide : (Int8.ofInt 8).toInt32 = 8)⟩,
  ⟨rfl, trivial⟩,
  ⟨rfl, (by decide : ((106 : Nat) : Int) + 9 = ((115 : Nat) : Int))⟩,
  ⟨rfl, trivial⟩,
  ⟨rfl, _, _, _, _, okc_7 cA _, (by decide : 12 < 44), gw_808 _, trivial, ⟨rfl, Or.inr ⟨_, rfl⟩⟩⟩,
  ⟨rfl, trivial⟩,
  ⟨rfl, trivial⟩,
  ⟨rfl, Or.inr rfl⟩, trivial⟩⟩
-- PartitionKernelModel.traffic
set_option maxRecDepth 100000 in
theorem dc_147 : ∀ en ∈ cd_147, decode prog_10_method_50_code en.1 = .ok (en.2.1, en.2.2.1 - en.1) := by decide +kernel
set_option maxRecDepth 100000 in
set_option maxHeartbeats 4000000 in
theorem ok_147 (cA : Nat → ClassId) : mq_okm pg_cl (pg_tys cA) (pg_E cA) pg_Z pg_sw pg_mx pg_X 147 cd_147 := ⟨by decide +kernel, by decide +kernel, mq_ok_of dc_147 ⟨⟨rfl, trivial⟩,
  ⟨rfl, (by decide : Int32.ofInt 0 = 0)⟩,
  ⟨rfl, _, _, _, _, okc_7 cA _, (by decide : 0 < 44), gw_796 _, Or.inl rfl, ⟨rfl, rfl⟩⟩,
  ⟨rfl, trivial⟩,
  ⟨rfl, trivial⟩,
  ⟨rfl, _, _, _, _, okc_7 cA _, (by decide : 28 < 44), gw_824 _, trivial, ⟨rfl, rfl⟩⟩,
  ⟨rfl, ⟨okg 101 _ gc_101, gw_52 _, Or.inl (gw_938 _), ⟨by decide +kernel, by decide +kernel, by decide +kernel⟩, by decide +kernel⟩, gw_939 _⟩,
  ⟨rfl, (by decide : ((13 : Nat) : Int) + 5 = ((18 : Nat) : Int))⟩,
  ⟨rfl, (by decide : Int32.ofInt (-1) = (-1))⟩,
  ⟨rfl, Or.inr rfl⟩,
  ⟨rfl, trivial⟩,
  ⟨rfl, (by decide : ((19 : Nat) : Int) + 12 = ((31 : Nat) : Int))⟩,
  ⟨rfl, trivial⟩,
  ⟨rfl, _, _, _, _, okc_7 cA _, (by decide : 33 < 44), gw_829 _, trivial, ⟨rfl, Or.inr ⟨_, rfl⟩⟩⟩,
  ⟨rfl, trivial⟩,
  ⟨rfl, trivial⟩,
  ⟨rfl, (by decide : ((28 : Nat) : Int) + 36 = ((64 : Nat) : Int))⟩,
  ⟨rfl, trivial⟩,
  ⟨rfl, (by decide : Int32.ofInt 1 = 1)⟩,
  ⟨rfl, (by decide : ((33 : Nat) : Int) + 30 = ((63 : Nat) : Int))⟩,
  ⟨rfl, trivial⟩,
  ⟨rfl, _, _, _, _, okc_7 cA _, (by decide : 29 < 44), gw_825 _, trivial, ⟨rfl, Or.inr ⟨_, rfl⟩⟩⟩,
  ⟨rfl, trivial⟩,
  ⟨rfl, trivial⟩,
  ⟨rfl, (by decide : ((42 : Nat) : Int) + 21 = ((63 : Nat) : Int))⟩,
  ⟨rfl, trivial⟩,
  ⟨rfl, _, _, _, _, okc_7 cA _, (by decide : 33 < 44), gw_829 _, trivial, ⟨rfl, Or.inr ⟨_, rfl⟩⟩⟩,
  ⟨rfl, trivial⟩,
  ⟨rfl, trivial⟩,
  ⟨rfl, (by decide : ((51 : Nat) : Int) + 12 = ((63 : Nat) : Int))⟩,
  ⟨rfl, trivial⟩,
  ⟨rfl, _, _, _, _, okc_7 cA _, (by decide : 34 < 44), gw_830 _, trivial, ⟨rfl, Or.inr ⟨_, rfl⟩⟩⟩,
  ⟨rfl, trivial⟩,
  ⟨rfl, trivial⟩,
  ⟨rfl, (by decide : ((60 : Nat) : Int) + 4 = ((64 : Nat) : Int))⟩,
  ⟨rfl, (by decide : Int32.ofInt (-1) = (-1))⟩,
  ⟨rfl, Or.inr rfl⟩, trivial⟩⟩
end
section
/-! Rows of methods, by program. -/
-- PartitionKernelModel.word
set_option maxRecDepth 100000 in
theorem dc_148 : ∀ en ∈ cd_148, decode prog_10_method_51_code en.1 = .ok (en.2.1, en.2.2.1 - en.1) := by decide +kernel
set_option maxRecDepth 100000 in
set_option maxHeartbeats 4000000 in
theorem ok_148 (cA : Nat → ClassId) : mq_okm pg_cl (pg_tys cA) (pg_E cA) pg_Z pg_sw pg_mx pg_X 148 cd_148 := ⟨by decide +kernel, by decide +kernel, mq_ok_of dc_148 ⟨⟨rfl, trivial⟩,
  ⟨rfl, (by decide : Int32.ofInt 0 = 0)⟩,
  ⟨rfl, _, _, _, _, okc_7 cA _, (by decide : 0 < 44), gw_796 _, Or.inl rfl, ⟨rfl, rfl⟩⟩,
  ⟨rfl, trivial⟩,
  ⟨rfl, trivial⟩,
  ⟨rfl, _, _, _, _, okc_7 cA _, (by decide : 28 < 44), gw_824 _, trivial, ⟨rfl, rfl⟩⟩,
  ⟨rfl, ⟨okg 101 _ gc_101, gw_52 _, Or.inl (gw_938 _), ⟨by decide +kernel, by decide +kernel, by decide +kernel⟩, by decide +kernel⟩, gw_939 _⟩,
  ⟨rfl, (by decide : ((13 : Nat) : Int) + 30 = ((43 : Nat) : Int))⟩,
  ⟨rfl, trivial⟩,
  ⟨rfl, trivial⟩,
  ⟨rfl, _, _, _, _, okc_7 cA _, (by decide : 33 < 44), gw_829 _, trivial, ⟨rfl, Or.inr ⟨_, rfl⟩⟩⟩,
  ⟨rfl, trivial⟩,
  ⟨rfl, trivial⟩,
  ⟨rfl, ⟨okg 101 _ gc_101, gw_52 _, Or.inl (gw_938 _), ⟨by decide +kernel, by decide +kernel, by decide +kernel⟩, by decide +kernel⟩, gw_939 _⟩,
  ⟨rfl, (by decide : ((26 : Nat) : Int) + 17 = ((43 : Nat) : Int))⟩,
  ⟨rfl, trivial⟩,
  ⟨rfl, _, _, _, _, okc_7 cA _, (by decide : 35 < 44), gw_831 _, trivial, ⟨rfl, Or.inr ⟨_, rfl⟩⟩⟩,
  ⟨rfl, (by decide : (Int8.ofInt 8).toInt32 = 8)⟩,
  ⟨rfl, trivial⟩,
  ⟨rfl, trivial⟩,
  ⟨rfl, trivial⟩,
  ⟨rfl, trivial⟩,
  ⟨rfl, trivial⟩,
  ⟨rfl, (by decide : ((40 : Nat) : Int) + 4 = ((44 : Nat) : Int))⟩,
  ⟨rfl, (by decide : Int32.ofInt 0 = 0)⟩,
  ⟨rfl, Or.inr rfl⟩, trivial⟩⟩
-- PartitionKernelModel.error
set_option maxRecDepth 100000 in
theorem dc_149 : ∀ en ∈ cd_149, decode prog_10_method_52_code en.1 = .ok (en.2.1, en.2.2.1 - en.1) := by decide +kernel
set_option maxRecDepth 100000 in
set_option maxHeartbeats 4000000 in
theorem ok_149 (cA : Nat → ClassId) : mq_okm pg_cl (pg_tys cA) (pg_E cA) pg_Z pg_sw pg_mx pg_X 149 cd_149 := ⟨by decide +kernel, by decide +kernel, mq_ok_of dc_149 ⟨⟨rfl, trivial⟩,
  ⟨rfl, (by decide : Int32.ofInt 0 = 0)⟩,
  ⟨rfl, _, _, _, _, okc_7 cA _, (by decide : 0 < 44), gw_796 _, Or.inl rfl, ⟨rfl, rfl⟩⟩,
  ⟨rfl, trivial⟩,
  ⟨rfl, (by decide : (Int8.ofInt 64).toInt32 = 64)⟩,
  ⟨rfl, ⟨okg 101 _ gc_101, gw_52 _, Or.inl (gw_938 _), ⟨by decide +kernel, by decide +kernel, by decide +kernel⟩, by decide +kernel⟩, gw_939 _⟩,
  ⟨rfl, (by decide : ((11 : Nat) : Int) + 11 = ((22 : Nat) : Int))⟩,
  ⟨rfl, trivial⟩,
  ⟨rfl, trivial⟩,
  ⟨rfl, _, _, _, _, okc_7 cA _, (by decide : 36 < 44), gw_832 _, trivial, ⟨rfl, rfl⟩⟩,
  ⟨rfl, (by decide : ((19 : Nat) : Int) + 5 = ((24 : Nat) : Int))⟩,
  ⟨rfl, (by decide : Int32.ofInt (-1) = (-1))⟩,
  ⟨rfl, Or.inr rfl⟩,
  ⟨rfl, trivial⟩,
  ⟨rfl, _, _, _, _, okc_7 cA _, (by decide : 36 < 44), gw_832 _, trivial, ⟨rfl, rfl⟩⟩,
  ⟨rfl, (by decide : Int32.ofInt 1 = 1)⟩,
  ⟨rfl, trivial⟩,
  ⟨rfl, trivial⟩,
  ⟨rfl, trivial⟩,
  ⟨rfl, (by decide : (Int8.ofInt 64).toInt32 = 64)⟩,
  ⟨rfl, trivial⟩,
  ⟨rfl, (by decide : 3 < 4)⟩,
  ⟨rfl, trivial⟩,
  ⟨rfl, (by decide : ((37 : Nat) : Int) + 12 = ((49 : Nat) : Int))⟩,
  ⟨rfl, trivial⟩,
  ⟨rfl, _, _, _, _, okc_7 cA _, (by decide : 37 < 44), gw_833 _, trivial, ⟨rfl, Or.inr ⟨_, rfl⟩⟩⟩,
  ⟨rfl, trivial⟩,
  ⟨rfl, trivial⟩,
  ⟨rfl, (by decide : ((46 : Nat) : Int) + 46 = ((92 : Nat) : Int))⟩,
  ⟨rfl, trivial⟩,
  ⟨rfl, (by decide : Int32.ofInt 1 = 1)⟩,
  ⟨rfl, (by decide : ((51 : Nat) : Int) + 12 = ((63 : Nat) : Int))⟩,
  ⟨rfl, trivial⟩,
  ⟨rfl, _, _, _, _, okc_7 cA _, (by decide : 38 < 44), gw_834 _, trivial, ⟨rfl, Or.inr ⟨_, rfl⟩⟩⟩,
  ⟨rfl, trivial⟩,
  ⟨rfl, trivial⟩,
  ⟨rfl, (by decide : ((60 : Nat) : Int) + 32 = ((92 : Nat) : Int))⟩,
  ⟨rfl, trivial⟩,
  ⟨rfl, (by decide : Int32.ofInt 2 = 2)⟩,
  ⟨rfl, (by decide : ((65 : Nat) : Int) + 12 = ((77 : Nat) : Int))⟩,
  ⟨rfl, trivial⟩,
  ⟨rfl, _, _, _, _, okc_7 cA _, (by decide : 39 < 44), gw_835 _, trivial, ⟨rfl, Or.inr ⟨_, rfl⟩⟩⟩,
  ⟨rfl, trivial⟩,
  ⟨rfl, trivial⟩,
  ⟨rfl, (by decide : ((74 : Nat) : Int) + 18 = ((92 : Nat) : Int))⟩,
  ⟨rfl, trivial⟩,
  ⟨rfl, (by decide : Int32.ofInt 3 = 3)⟩,
  ⟨rfl, (by decide : ((79 : Nat) : Int) + 12 = ((91 : Nat) : Int))⟩,
  ⟨rfl, trivial⟩,
  ⟨rfl, _, _, _, _, okc_7 cA _, (by decide : 40 < 44), gw_836 _, trivial, ⟨rfl, Or.inr ⟨_, rfl⟩⟩⟩,
  ⟨rfl, trivial⟩,
  ⟨rfl, trivial⟩,
  ⟨rfl, (by decide : ((88 : Nat) : Int) + 4 = ((92 : Nat) : Int))⟩,
  ⟨rfl, (by decide : Int32.ofInt (-1) = (-1))⟩,
  ⟨rfl, Or.inr rfl⟩, trivial⟩⟩
-- PartitionKernelModel.about
set_option maxRecDepth 100000 in
theorem dc_150 : ∀ en ∈ cd_150, decode prog_10_method_53_code en.1 = .ok (en.2.1, en.2.2.1 - en.1) := by decide +kernel
set_option maxRecDepth 100000 in
set_option maxHeartbeats 4000000 in
theorem ok_150 (cA : Nat → ClassId) : mq_okm pg_cl (pg_tys cA) (pg_E cA) pg_Z pg_sw pg_mx pg_X 150 cd_150 := ⟨by decide +kernel, by decide +kernel, mq_ok_of dc_150 ⟨⟨rfl, trivial⟩,
  ⟨rfl, (by decide : Int32.ofInt 0 = 0)⟩,
  ⟨rfl, _, _, _, _, okc_7 cA _, (by decide : 0 < 44), gw_796 _, Or.inl rfl, ⟨rfl, rfl⟩⟩,
  ⟨rfl, trivial⟩,
  ⟨rfl, (by decide : ((6 : Nat) : Int) + 10 = ((16 : Nat) : Int))⟩,
  ⟨rfl, trivial⟩,
  ⟨rfl, _, _, _, _, okc_7 cA _, (by decide : 2 < 44), gw_798 _, trivial, ⟨rfl, rfl⟩⟩,
  ⟨rfl, (by decide : ((13 : Nat) : Int) + 47 = ((60 : Nat) : Int))⟩,
  ⟨rfl, trivial⟩,
  ⟨rfl, (by decide : Int32.ofInt 1 = 1)⟩,
  ⟨rfl, (by decide : ((18 : Nat) : Int) + 10 = ((28 : Nat) : Int))⟩,
  ⟨rfl, trivial⟩,
  ⟨rfl, _, _, _, _, okc_7 cA _, (by decide : 36 < 44), gw_832 _, trivial, ⟨rfl, rfl⟩⟩,
  ⟨rfl, (by decide : ((25 : Nat) : Int) + 35 = ((60 : Nat) : Int))⟩,
  ⟨rfl, trivial⟩,
  ⟨rfl, (by decide : Int32.ofInt 2 = 2)⟩,
  ⟨rfl, (by decide : ((30 : Nat) : Int) + 10 = ((40 : Nat) : Int))⟩,
  ⟨rfl, trivial⟩,
  ⟨rfl, _, _, _, _, okc_7 cA _, (by decide : 5 < 44), gw_801 _, trivial, ⟨rfl, rfl⟩⟩,
  ⟨rfl, (by decide : ((37 : Nat) : Int) + 23 = ((60 : Nat) : Int))⟩,
  ⟨rfl, trivial⟩,
  ⟨rfl, (by decide : Int32.ofInt 3 = 3)⟩,
  ⟨rfl, (by decide : ((42 : Nat) : Int) + 17 = ((59 : Nat) : Int))⟩,
  ⟨rfl, trivial⟩,
  ⟨rfl, _, _, _, _, okc_7 cA _, (by decide : 1 < 44), gw_797 _, trivial, ⟨rfl, rfl⟩⟩,
  ⟨rfl, (by decide : ((49 : Nat) : Int) + 10 = ((59 : Nat) : Int))⟩,
  ⟨rfl, trivial⟩,
  ⟨rfl, 0, _, rfl, ⟨okg 130 _ gc_130, gw_52 _, gw_985 _, ⟨by decide +kernel, by decide +kernel, by decide +kernel⟩, by decide +kernel⟩, gw_987 _, rfl, gw_19 _⟩,
  ⟨rfl, (by decide : ((56 : Nat) : Int) + 4 = ((60 : Nat) : Int))⟩,
  ⟨rfl, (by decide : Int32.ofInt (-1) = (-1))⟩,
  ⟨rfl, Or.inr rfl⟩, trivial⟩⟩
end
section
/-! Every method of class and reference that throws nothing: what the machine answers is its contract. -/
def pg_cds : List (List mEn) := [[], cd_1, cd_2, cd_3, cd_4, cd_5, cd_6, cd_7, cd_8, cd_9, cd_10, cd_11, cd_12, cd_13, cd_14, cd_15, cd_16, cd_17, cd_18, cd_19, cd_20, cd_21, cd_22, cd_23, cd_24, cd_25, cd_26, cd_27, cd_28, cd_29, cd_30, cd_31, cd_32, cd_33, cd_34, cd_35, cd_36, cd_37, cd_38, cd_39, cd_40, cd_41, cd_42, cd_43, cd_44, cd_45, cd_46, cd_47, cd_48, cd_49, cd_50, cd_51, cd_52, cd_53, cd_54, cd_55, cd_56, cd_57, cd_58, cd_59, cd_60, cd_61, cd_62, cd_63, cd_64, cd_65, cd_66, cd_67, cd_68, cd_69, cd_70, cd_71, cd_72, cd_73, cd_74, cd_75, cd_76, cd_77, cd_78, cd_79, cd_80, cd_81, cd_82, cd_83, cd_84, cd_85, cd_86, cd_87, cd_88, cd_89, cd_90, cd_91, cd_92, cd_93, cd_94, cd_95, cd_96, cd_97, cd_98, cd_99, cd_100, cd_101, cd_102, cd_103, cd_104, cd_105, cd_106, cd_107, cd_108, cd_109, cd_110, cd_111, cd_112, cd_113, cd_114, cd_115, cd_116, cd_117, cd_118, cd_119, cd_120, cd_121, cd_122, cd_123, cd_124, cd_125, cd_126, cd_127, cd_128, cd_129, cd_130, cd_131, cd_132, cd_133, cd_134, cd_135, cd_136, cd_137, cd_138, cd_139, cd_140, cd_141, cd_142, cd_143, cd_144, cd_145, cd_146, cd_147, cd_148, cd_149, cd_150, [], [], [], [], [], [], []]
def pg_c (k : Nat) : List mEn := pg_cds.getD k []
abbrev pg_okp (cA : Nat → ClassId) (mi : Nat) : Prop := pg_c mi ≠ [] → mq_okm pg_cl (pg_tys cA) (pg_E cA) pg_Z pg_sw pg_mx pg_X mi (pg_c mi)
set_option maxRecDepth 100000 in
theorem pg_ok_20 (cA : Nat → ClassId) (h : ∀ mi, mi < 0 → pg_okp cA mi) : ∀ mi, mi < 20 → pg_okp cA mi := (lt_s (lt_s (lt_s (lt_s (lt_s (lt_s (lt_s (lt_s (lt_s (lt_s (lt_s (lt_s (lt_s (lt_s (lt_s (lt_s (lt_s (lt_s (lt_s (lt_s h (fun h => absurd rfl h)) (fun _ => ok_1 cA)) (fun _ => ok_2 cA)) (fun _ => ok_3 cA)) (fun _ => ok_4 cA)) (fun _ => ok_5 cA)) (fun _ => ok_6 cA)) (fun _ => ok_7 cA)) (fun _ => ok_8 cA)) (fun _ => ok_9 cA)) (fun _ => ok_10 cA)) (fun _ => ok_11 cA)) (fun _ => ok_12 cA)) (fun _ => ok_13 cA)) (fun _ => ok_14 cA)) (fun _ => ok_15 cA)) (fun _ => ok_16 cA)) (fun _ => ok_17 cA)) (fun _ => ok_18 cA)) (fun _ => ok_19 cA))
set_option maxRecDepth 100000 in
theorem pg_ok_40 (cA : Nat → ClassId) (h : ∀ mi, mi < 20 → pg_okp cA mi) : ∀ mi, mi < 40 → pg_okp cA mi := (lt_s (lt_s (lt_s (lt_s (lt_s (lt_s (lt_s (lt_s (lt_s (lt_s (lt_s (lt_s (lt_s (lt_s (lt_s (lt_s (lt_s (lt_s (lt_s (lt_s h (fun _ => ok_20 cA)) (fun _ => ok_21 cA)) (fun _ => ok_22 cA)) (fun _ => ok_23 cA)) (fun _ => ok_24 cA)) (fun _ => ok_25 cA)) (fun _ => ok_26 cA)) (fun _ => ok_27 cA)) (fun _ => ok_28 cA)) (fun _ => ok_29 cA)) (fun _ => ok_30 cA)) (fun _ => ok_31 cA)) (fun _ => ok_32 cA)) (fun _ => ok_33 cA)) (fun _ => ok_34 cA)) (fun _ => ok_35 cA)) (fun _ => ok_36 cA)) (fun _ => ok_37 cA)) (fun _ => ok_38 cA)) (fun _ => ok_39 cA))
set_option maxRecDepth 100000 in
theorem pg_ok_60 (cA : Nat → ClassId) (h : ∀ mi, mi < 40 → pg_okp cA mi) : ∀ mi, mi < 60 → pg_okp cA mi := (lt_s (lt_s (lt_s (lt_s (lt_s (lt_s (lt_s (lt_s (lt_s (lt_s (lt_s (lt_s (lt_s (lt_s (lt_s (lt_s (lt_s (lt_s (lt_s (lt_s h (fun _ => ok_40 cA)) (fun _ => ok_41 cA)) (fun _ => ok_42 cA)) (fun _ => ok_43 cA)) (fun _ => ok_44 cA)) (fun _ => ok_45 cA)) (fun _ => ok_46 cA)) (fun _ => ok_47 cA)) (fun _ => ok_48 cA)) (fun _ => ok_49 cA)) (fun _ => ok_50 cA)) (fun _ => ok_51 cA)) (fun _ => ok_52 cA)) (fun _ => ok_53 cA)) (fun _ => ok_54 cA)) (fun _ => ok_55 cA)) (fun _ => ok_56 cA)) (fun _ => ok_57 cA)) (fun _ => ok_58 cA)) (fun _ => ok_59 cA))
set_option maxRecDepth 100000 in
theorem pg_ok_80 (cA : Nat → ClassId) (h : ∀ mi, mi < 60 → pg_okp cA mi) : ∀ mi, mi < 80 → pg_okp cA mi := (lt_s (lt_s (lt_s (lt_s (lt_s (lt_s (lt_s (lt_s (lt_s (lt_s (lt_s (lt_s (lt_s (lt_s (lt_s (lt_s (lt_s (lt_s (lt_s (lt_s h (fun _ => ok_60 cA)) (fun _ => ok_61 cA)) (fun _ => ok_62 cA)) (fun _ => ok_63 cA)) (fun _ => ok_64 cA)) (fun _ => ok_65 cA)) (fun _ => ok_66 cA)) (fun _ => ok_67 cA)) (fun _ => ok_68 cA)) (fun _ => ok_69 cA)) (fun _ => ok_70 cA)) (fun _ => ok_71 cA)) (fun _ => ok_72 cA)) (fun _ => ok_73 cA)) (fun _ => ok_74 cA)) (fun _ => ok_75 cA)) (fun _ => ok_76 cA)) (fun _ => ok_77 cA)) (fun _ => ok_78 cA)) (fun _ => ok_79 cA))
set_option maxRecDepth 100000 in
theorem pg_ok_100 (cA : Nat → ClassId) (h : ∀ mi, mi < 80 → pg_okp cA mi) : ∀ mi, mi < 100 → pg_okp cA mi := (lt_s (lt_s (lt_s (lt_s (lt_s (lt_s (lt_s (lt_s (lt_s (lt_s (lt_s (lt_s (lt_s (lt_s (lt_s (lt_s (lt_s (lt_s (lt_s (lt_s h (fun _ => ok_80 cA)) (fun _ => ok_81 cA)) (fun _ => ok_82 cA)) (fun _ => ok_83 cA)) (fun _ => ok_84 cA)) (fun _ => ok_85 cA)) (fun _ => ok_86 cA)) (fun _ => ok_87 cA)) (fun _ => ok_88 cA)) (fun _ => ok_89 cA)) (fun _ => ok_90 cA)) (fun _ => ok_91 cA)) (fun _ => ok_92 cA)) (fun _ => ok_93 cA)) (fun _ => ok_94 cA)) (fun _ => ok_95 cA)) (fun _ => ok_96 cA)) (fun _ => ok_97 cA)) (fun _ => ok_98 cA)) (fun _ => ok_99 cA))
set_option maxRecDepth 100000 in
theorem pg_ok_120 (cA : Nat → ClassId) (h : ∀ mi, mi < 100 → pg_okp cA mi) : ∀ mi, mi < 120 → pg_okp cA mi := (lt_s (lt_s (lt_s (lt_s (lt_s (lt_s (lt_s (lt_s (lt_s (lt_s (lt_s (lt_s (lt_s (lt_s (lt_s (lt_s (lt_s (lt_s (lt_s (lt_s h (fun _ => ok_100 cA)) (fun _ => ok_101 cA)) (fun _ => ok_102 cA)) (fun _ => ok_103 cA)) (fun _ => ok_104 cA)) (fun _ => ok_105 cA)) (fun _ => ok_106 cA)) (fun _ => ok_107 cA)) (fun _ => ok_108 cA)) (fun _ => ok_109 cA)) (fun _ => ok_110 cA)) (fun _ => ok_111 cA)) (fun _ => ok_112 cA)) (fun _ => ok_113 cA)) (fun _ => ok_114 cA)) (fun _ => ok_115 cA)) (fun _ => ok_116 cA)) (fun _ => ok_117 cA)) (fun _ => ok_118 cA)) (fun _ => ok_119 cA))
set_option maxRecDepth 100000 in
theorem pg_ok_140 (cA : Nat → ClassId) (h : ∀ mi, mi < 120 → pg_okp cA mi) : ∀ mi, mi < 140 → pg_okp cA mi := (lt_s (lt_s (lt_s (lt_s (lt_s (lt_s (lt_s (lt_s (lt_s (lt_s (lt_s (lt_s (lt_s (lt_s (lt_s (lt_s (lt_s (lt_s (lt_s (lt_s h (fun _ => ok_120 cA)) (fun _ => ok_121 cA)) (fun _ => ok_122 cA)) (fun _ => ok_123 cA)) (fun _ => ok_124 cA)) (fun _ => ok_125 cA)) (fun _ => ok_126 cA)) (fun _ => ok_127 cA)) (fun _ => ok_128 cA)) (fun _ => ok_129 cA)) (fun _ => ok_130 cA)) (fun _ => ok_131 cA)) (fun _ => ok_132 cA)) (fun _ => ok_133 cA)) (fun _ => ok_134 cA)) (fun _ => ok_135 cA)) (fun _ => ok_136 cA)) (fun _ => ok_137 cA)) (fun _ => ok_138 cA)) (fun _ => ok_139 cA))
set_option maxRecDepth 100000 in
theorem pg_ok_158 (cA : Nat → ClassId) (h : ∀ mi, mi < 140 → pg_okp cA mi) : ∀ mi, mi < 158 → pg_okp cA mi := (lt_s (lt_s (lt_s (lt_s (lt_s (lt_s (lt_s (lt_s (lt_s (lt_s (lt_s (lt_s (lt_s (lt_s (lt_s (lt_s (lt_s (lt_s h (fun _ => ok_140 cA)) (fun _ => ok_141 cA)) (fun _ => ok_142 cA)) (fun _ => ok_143 cA)) (fun _ => ok_144 cA)) (fun _ => ok_145 cA)) (fun _ => ok_146 cA)) (fun _ => ok_147 cA)) (fun _ => ok_148 cA)) (fun _ => ok_149 cA)) (fun _ => ok_150 cA)) (fun h => absurd rfl h)) (fun h => absurd rfl h)) (fun h => absurd rfl h)) (fun h => absurd rfl h)) (fun h => absurd rfl h)) (fun h => absurd rfl h)) (fun h => absurd rfl h))
theorem pg_oka (cA : Nat → ClassId) : ∀ mi, pg_c mi ≠ [] → mq_okm pg_cl (pg_tys cA) (pg_E cA) pg_Z pg_sw pg_mx pg_X mi (pg_c mi) := by
  intro mi h
  by_cases hm : mi < 158
  · exact (pg_ok_158 cA (pg_ok_140 cA (pg_ok_120 cA (pg_ok_100 cA (pg_ok_80 cA (pg_ok_60 cA (pg_ok_40 cA (pg_ok_20 cA lt_0)))))))) mi hm h
  · exact absurd (by unfold pg_c; rw [List.getD_eq_getElem?_getD, List.getElem?_eq_none (by show 158 ≤ mi; omega)]; rfl) h
theorem pg_htO (k : Nat) (h : (pg_ki k).1 = 0) : (pg_ki k).2.1 = k := by
  unfold pg_ki at h ⊢
  split at h <;> first | rfl | cases h
theorem pg_htQ (cA : Nat → ClassId) (k : Nat) (h : (pg_ki k).1 = 3) : ∃ (C1 : String) (T : u_T) (N t0 : Nat), pg_ki (pg_ki k).2.1 = (0, (pg_ki k).2.1, N) ∧ pg_cl[(pg_ki k).2.1]? = some (C1, T, N) ∧ (pg_tys cA)[t0]? = some (cA (100 + (pg_ki k).2.1), FieldType.object C1) := by
  have hk : k = 20 ∨ k = 21 ∨ k = 22 := by
    unfold pg_ki at h
    split at h <;> first | (simp; done) | cases h
  rcases hk with rfl | rfl | rfl
  · exact ⟨_, _, _, 4, rfl, rfl, rfl⟩
  · exact ⟨_, _, _, 5, rfl, rfl, rfl⟩
  · exact ⟨_, _, _, 6, rfl, rfl, rfl⟩
/-- a method of the program at depth d -/
def pX (F d mi : Nat) (as : List mLV) (M : mMm) : mRs := mq_ex pg_ki pg_sw (fun _ _ => none) pg_mx pg_Z.2.2.1 pg_c F d mi as M
theorem pg_sound {l : Launch} {D : va_G} {F : Nat} (cA : Nat → ClassId) (d mi : Nat) (as : List mLV) (M : mMm) (rv : Option mLV) (M1 : mMm) (h : pX F d mi as M = some (.inl rv, M1)) : mq_Met l pg_X (pg_E cA) D pg_cl (pg_tys cA) (pg_Z.1 mi) (mq_ws pg_Z mi) (mq_rm pg_mx d mi) (pg_mx mi).1 (pg_mx mi).2.1 as M rv M1 :=
  mq_sound (E := pg_E cA) (cd := pg_c) (F := F) (hn := fun _ _ => none) pX_warm rfl (tI := 0) (tL := 1) (tB := 2) (tZ := 3) rfl rfl rfl rfl (pg_htQ cA) pg_htO (fun _ _ => rfl) (pg_oka cA) d mi as M rv M1 h
end
section
/-! A method's own throw, with all that it leaves as it was: of the library's laws of a Throwable's constructors, over a heap that has moved. -/
section MQT
variable {p : Program} {l : Launch} {e : Env} {R : Room} {s : State} {m : MethodId} {args : Array Value} {below : List Frame} {meth : Method} {c : Code}
set_option maxHeartbeats 4000000 in
theorem mq_ctorThrow {W0 : State} {locs : List Loc} {cells slots : Nat} (X : Stand p l e R s m args below meth c W0 locs cells slots) (hexec : p.tables.exec = Jvm.exec) (htr : e.platform.stackTraces = false) {own cls : String} {names : List String} {ic : Nat}
    (hown : s.vm.findClass own = some m.cls) (hcls : Bundle.fit cls = true) (hnames : ∀ n ∈ names, Bundle.fit n = true)
    (h : ∀ a ∈ Bundle.ownAtoms own ic cls names, a.before args s = true)
    (hlocs : ∀ x ∈ locs, ∀ cell, s.heap[x.base]? = some cell → cell.vm.isStatics = false)
    {a : Addr} {cX : ClassId} {kX : Class} (hfoundX : s.vm.findClass cls = some cX) (hkX : s.vm.classes[cX]? = some kX) (hcell : W0.heap[a]? = some (freshCell cX kX)) (hnew : s.heap.size ≤ a)
    {msg : Value} (hmsg : msg.isRef = true)
    {g : JFrame} (hg : g.method = m) (hsize : g.locals.size = c.maxLocals) (hlocked : g.locked = none) (hentered : g.entered = []) {rest : List Value} (hstack : g.stack = msg :: .ref a :: .ref a :: rest)
    (hd6 : decode c.code g.pc = .ok (.invokespecial ic, 3)) (hd9 : decode c.code (g.pc + 3) = .ok (.athrow, 1)) (hout : ∀ x ∈ c.exceptionTable.toList, covers x (g.pc + 3) = false)
    (hRframes : names.length + 3 < R.frames) (hRlocals : 2 * g.monitorRoom + ((Value.ref a :: rest).map fun v => v.category).sum + (13 * (names.length + 1) + 42) ≤ R.locals) (hlocks : meth.locks = false) :
    ∃ U : State, Steps p.tables e below (W0.setTop g) U ∧ U.status = .running ∧ Ended U below (.threw a) ∧ s.WarmedH U.vm ∧ s.sameButNew ({ U with vm := s.vm } : State) locs cells slots ∧
      (∃ ce : Cell, U.heap[a]? = some ce ∧ ce.vm = .none ∧ ce.cls = cX) ∧ U.heap.size = W0.heap.size ∧ ∀ q : Nat, q ≠ a → U.heap[q]? = W0.heap[q]? := by
  have howns : e.platform.frameOwnsMonitors = true := by rw [X.admits.platform]
  have hfin : e.platform.finalization = false := by rw [X.admits.platform]
  have hpl : e.platform.magicAccessors = ({} : Platform).magicAccessors := by rw [X.admits.platform]
  have a' : ∀ x, x ∈ Bundle.ownAtoms own ic cls names → x.holds args s none s [] = true := fun x hx => h x hx
  obtain ⟨T, Z0, L, -, Y⟩ := ThrowableC.of_atoms (args := args) howns hfin hpl (fun x hx => h x (by simp [Bundle.ownAtoms, hx]))
  obtain ⟨Z, M, LZ, LM, hnZ⟩ := Init0T.ofS_atoms (args := args) hpl L Y (fun x hx => h x (by simp [Bundle.ownAtoms, hx]))
  obtain ⟨P1, Ps, hlen, L1, hL, hP1m, hlink1, hlink⟩ := Bundle.chainS (args := args) hpl hnZ names cls hcls hnames (fun x hx => h x (by simp [Bundle.ownAtoms, hx]))
  have hfound : s.vm.findClass cls = some P1.m.cls := findClass_of_methodNamed hP1m
  cases Option.some.inj (hfoundX.symm.trans hfound)
  obtain ⟨c1, kX', hc1, hk, hord, -, -, hn6⟩ := Cond.instantiable_spec (a' (.instantiable cls 6) (by simp [Bundle.ownAtoms]))
  cases Option.some.inj (hc1.symm.trans hfound)
  cases Option.some.inj (hkX.symm.trans hk)
  have hsel0 : selectMethod e.platform s.vm P1.m.cls T.fill0 = .method T.fill0 := by
    obtain ⟨c2, r2, m2, q1, q2, q3, q4, -⟩ := Cond.selects_spec (a' (.selects cls Bundle.tFill0 Bundle.tFill0) (by simp [Bundle.ownAtoms]))
    cases Option.some.inj (q1.symm.trans hfound)
    cases Option.some.inj (q2.symm.trans (State.methodFound?_of_named Y.fill0 (by decide)))
    cases Option.some.inj (q3.symm.trans Y.fill0)
    rw [Launch.admits_selectMethod X.admits]; exact q4
  have hselF : selectMethod e.platform s.vm P1.m.cls T.fill = .method T.fill := by
    obtain ⟨c2, r2, m2, q1, q2, q3, q4, -⟩ := Cond.selects_spec (a' (.selects cls Bundle.tFill Bundle.tFill) (by simp [Bundle.ownAtoms]))
    cases Option.some.inj (q1.symm.trans hfound)
    cases Option.some.inj (q2.symm.trans (State.methodFound?_of_named Y.fill (by decide)))
    cases Option.some.inj (q3.symm.trans Y.fill)
    rw [Launch.admits_selectMethod X.admits]; exact q4
  obtain ⟨cellS0, hcS0, hiss⟩ := Y.statics
  obtain ⟨u0, hu0⟩ := Cond.staticRefV Y.unassigned L.unassignedStatic L.statics hcS0 hiss (a' (.isRef (.static Bundle.tN "UNASSIGNED_STACK" Bundle.steD)) (by simp [Bundle.ownAtoms]))
  obtain ⟨sen, hsen⟩ := Cond.staticRefV Y.sentinel L.sentinelStatic L.statics hcS0 hiss (a' (.isRef (.static Bundle.tN "SUPPRESSED_SENTINEL" Bundle.listD)) (by simp [Bundle.ownAtoms]))
  obtain ⟨ci198, i198, fB, hk198, hg198, ha198, hsB, -, hnB, htB, hffB⟩ := Cond.ownField (t := .object "java/lang/Object") Y.found L.cls (by decide +kernel) (a' (.fieldLink Bundle.tN 198 Bundle.tN "backtrace" "Ljava/lang/Object;") (by simp [Bundle.ownAtoms])) (a' (.lays Bundle.tN Bundle.tN "backtrace" "Ljava/lang/Object;") (by simp [Bundle.ownAtoms])) e.platform hpl
  obtain ⟨cellS, hcS', heS, -, hkeep⟩ := X.same.2.2.2.2.2 T.aS cellS0 hcS0
  have hcellS : W0.heap[T.aS]? = some cellS := hcS'
  have hout' : ∀ i, (⟨T.aS, i⟩ : Loc) ∉ locs := fun i hmem => by
    have := hlocs _ hmem cellS0 hcS0
    rw [hiss] at this; cases this
  have hknownS : cellS.vm ≠ .unknown := by
    rw [heS]; intro hu
    rw [show cellS0.vm = .unknown from hu] at hiss
    cases hiss
  have hneS : T.aS ≠ a := Nat.ne_of_lt (Nat.lt_of_lt_of_le (Array.getElem?_eq_some_iff.mp hcS0).1 hnew)
  obtain ⟨iM, hffM⟩ := Y.msg
  obtain ⟨tyC, dC, hdC, hdnC⟩ := Cond.laysAt hfound hk Y.cause (a' (.lays cls Bundle.tN "cause" "Ljava/lang/Throwable;") (by simp [Bundle.ownAtoms]))
  obtain ⟨tyS, dS, hdS, hdnS⟩ := Cond.laysAt hfound hk Y.stack (a' (.lays cls Bundle.tN "stackTrace" Bundle.steD) (by simp [Bundle.ownAtoms]))
  obtain ⟨tyP, dP, hdP, hdnP⟩ := Cond.laysAt hfound hk Y.supp (a' (.lays cls Bundle.tN "suppressedExceptions" Bundle.listD) (by simp [Bundle.ownAtoms]))
  obtain ⟨tyM, dM, hdM, hdnM⟩ := Cond.laysAt hfound hk hffM (a' (.lays cls Bundle.tN "detailMessage" "Ljava/lang/String;") (by simp [Bundle.ownAtoms]))
  obtain ⟨tyB, dB, hdB, hdnB⟩ := Cond.laysAt hfound hk hffB (a' (.lays cls Bundle.tN "backtrace" "Ljava/lang/Object;") (by simp [Bundle.ownAtoms]))
  have bC := Cond.laysApart hdB hdC hdnB hdnC (by rw [hnB, Y.causeName]; decide)
  have bS := Cond.laysApart hdB hdS hdnB hdnS (by rw [hnB, Y.stackName]; decide)
  have bP := Cond.laysApart hdB hdP hdnB hdnP (by rw [hnB, Y.suppName]; decide)
  have hskip : SkipFacts T e.platform s (fun u => u) u0 ((preparedCellV T.toThrowableT (freshCell P1.m.cls kX) a u0 sen).withEntry W0.cur) :=
    ⟨{ ci198 := ci198, i198 := i198, fBack := fB }, ⟨hk198, hg198, ha198, hsB⟩, by
      have := fresh_default (c := P1.m.cls) tyB
      rw [htB] at this
      simpa [preparedCellV, Cell.setSlot, Cell.withEntry, Array.getElem?_setIfInBounds, bC, bS, bP, bC.symm, bS.symm, bP.symm, defaultValue] using this, fun _ _ => rfl⟩
  obtain ⟨tm, methC, cdC, kC, vm₁, hnC, -, -, -, -, -, -, -, hW₁, st1⟩ := Steps.initColdS (tb := p.tables) (e := e) (below := below) (s := s) (U := W0) X.here hexec X.warmed hpl hown (t := Bundle.initS cls) rfl rfl (Bundle.fit_spec hcls).2
    (a' (.methodLink own ic (Bundle.initS cls)) (by simp [Bundle.ownAtoms])) (h (.instanceMethod (Bundle.initS cls)) (by cases names <;> simp [Bundle.ownAtoms, Bundle.chainSAtoms, Bundle.passSAtoms])) (bytes := Bundle.six) (maxL := 2) (h (.code (Bundle.initS cls) Bundle.six 2 none) (by cases names <;> simp [Bundle.ownAtoms, Bundle.chainSAtoms, Bundle.passSAtoms]))
    (f := g) hg (a := a) (msg := msg) (rest := .ref a :: rest) hstack hd6
  cases Option.some.inj (hnC.symm.trans hP1m)
  have X₁ := X.noted hW₁
  obtain ⟨vm₂, X₂, st2⟩ := X₁.ctorMessageOffV hexec (g := { g with stack := .ref a :: rest }) hg hsize T L Z LZ M LM (P1 :: Ps)
    (fun P hP => by rcases List.mem_cons.mp hP with rfl | hP; exact L1; exact hL P hP) ⟨hlink1, hlink⟩ (u0 := u0) (sen := sen) (self := a) hmsg (cell := freshCell P1.m.cls kX) (cellS := cellS)
    hcell (fun _ => by simp) (by simp) rfl rfl hsel0 hselF hcellS hneS hknownS (by rw [hkeep _ (hout' _)]; exact hu0) (by rw [hkeep _ (hout' _)]; exact hsen)
    (Takes.of_laid hk hord tyC (by rw [Y.causeType]; rfl)) (Takes.of_laid hk hord tyS (by rw [Y.stackType]; exact fits_refV_array _ u0)) (Takes.of_laid hk hord tyP (by rw [Y.suppType]; exact fits_refV_object _ sen))
    (Takes.of_laid hk hord tyM (by rw [Y.msgType]; exact fits_refV_object _ ⟨msg, hmsg⟩)) Y.objLocals hskip htr [] hd6
    (by simp only [List.length_cons, hlen]; omega) (by simp only [List.length_cons, hlen]; exact hRlocals)
  obtain ⟨hwalk, hrun, hended, hWU, hsame⟩ := X₂.athrowLeaves hexec (g := { g with stack := .ref a :: rest, pc := g.pc + 3 }) hg hlocked hentered hout (a := a) (rest := rest) rfl hd9 hlocks
  have hlt : a < ((W0.setVm vm₁).setVm vm₂).heap.size := (Array.getElem?_eq_some_iff.mp hcell).1
  have hU := heapAt_setCell_self (s := (W0.setVm vm₁).setVm vm₂) (plainBareV T.toThrowableT (freshCell P1.m.cls kX) a u0 sen msg) hlt
  refine ⟨_, st1 _ (fun acts => ?_), hrun, hended, hWU, hsame.weaken (fun y hy hlt' => ?_) (Nat.le_refl _) (Nat.le_refl _), ⟨_, hU, rfl, rfl⟩, ?_, fun q hq => ?_⟩
  · rw [doInvoke_state]
    exact st2 _ hwalk
  · rcases List.mem_append.mp hy with h1 | h1
    · exact h1
    · exfalso
      have hb : y.base = a := by
        simp only [List.mem_cons, List.not_mem_nil, or_false] at h1
        rcases h1 with rfl | rfl | rfl | rfl | rfl <;> rfl
      rw [hb] at hlt'
      exact Nat.not_lt.mpr hnew hlt'
  · exact size_setCell ((W0.setVm vm₁).setVm vm₂) a _
  · exact heapAt_setCell_ne (s := (W0.setVm vm₁).setVm vm₂) _ (Ne.symm hq)
end MQT
end
section
/-! Throws, over the machine's world. -/
/-- a static of Throwable's: it holds a reference or null, in a cell that is none of A's -/
def mq_Zs (n d : String) (A : Nat → Prop) (U : State) (H : Heap) : Prop := ∃ (c : ClassId) (k : Class) (i : Nat) (f : Field) (a : Nat) (cell : Cell), U.vm.findClass Bundle.tN = some c ∧ U.fieldFound? Bundle.tN n d = some (c, k, i, f) ∧ f.isStatic = true ∧ k.statics = some a ∧ H[a]? = some cell ∧ cell.vm.isStatics = true ∧ cell.cls = c ∧ f.slot < cell.slots.size ∧ k.staticTypes[f.slot]? = some f.type ∧ (∃ u : RefV, cell.slots[f.slot]? = some u.v) ∧ ¬ A a
section MQZ
variable {n d : String} {A B : Nat → Prop} {u U : State} {H H1 : Heap}
theorem mq_Zs.of {args : Array Value} (hl : (Jvm.Cond.laysStatic Bundle.tN n d).before args U = true) (hr : (Jvm.Cond.isRef (.static Bundle.tN n d)).before args U = true) (hA : ∀ a : Nat, a < U.heap.size → ¬ A a) : mq_Zs n d A U U.heap := by
  obtain ⟨c, k, i, f, a, cell, hc, hi, hst, ha, hcell, hs, hcls, hlt, hty⟩ := Cond.laysStatic_spec hl
  obtain ⟨w, hw⟩ := Cond.staticRefV hi hst ha hcell hs hr
  exact ⟨c, k, i, f, a, cell, hc, hi, hst, ha, hcell, hs, hcls, hlt, hty, ⟨w, hw⟩, hA a (Array.getElem?_eq_some_iff.mp hcell).1⟩
theorem mq_Zs.moved (hvm : u.vm.Alike U.vm) (h : mq_Zs n d A u H) : mq_Zs n d A U H := by
  obtain ⟨c, k, i, f, a, cell, h1, h2, h3, h4, h5, h6, h7, h8, h9, h10, h11⟩ := h
  obtain ⟨k', hi', he⟩ := State.fieldFound?_setVm hvm h2
  exact ⟨c, k', i, f, a, cell, by rw [hvm.findClass]; exact h1, hi', h3, by rw [he]; exact h4, h5, h6, h7, h8, by rw [he]; exact h9, h10, h11⟩
theorem mq_Zs.kept (h : mq_Zs n d A U H) (hq : ∀ a : Nat, a < H.size → ¬ A a → H1[a]? = H[a]?) : mq_Zs n d A U H1 := by
  obtain ⟨c, k, i, f, a, cell, h1, h2, h3, h4, h5, h6, h7, h8, h9, h10, h11⟩ := h
  exact ⟨c, k, i, f, a, cell, h1, h2, h3, h4, by rw [hq a (Array.getElem?_eq_some_iff.mp h5).1 h11]; exact h5, h6, h7, h8, h9, h10, h11⟩
theorem mq_Zs.narrow (h : mq_Zs n d A U H) (hAB : ∀ q, B q → A q) : mq_Zs n d B U H := by
  obtain ⟨c, k, i, f, a, cell, h1, h2, h3, h4, h5, h6, h7, h8, h9, h10, h11⟩ := h
  exact ⟨c, k, i, f, a, cell, h1, h2, h3, h4, h5, h6, h7, h8, h9, h10, fun z => h11 (hAB a z)⟩
theorem mq_Zs.lays {args : Array Value} (h : mq_Zs n d A U U.heap) : (Jvm.Cond.laysStatic Bundle.tN n d).before args U = true := by
  obtain ⟨c, k, i, f, a, cell, h1, h2, h3, h4, h5, h6, h7, h8, h9, h10, h11⟩ := h
  exact Cond.laysStatic_of h1 h2 h3 h4 h5 h6 h7 h8 h9
theorem mq_Zs.ref {args : Array Value} (h : mq_Zs n d A U U.heap) : (Jvm.Cond.isRef (.static Bundle.tN n d)).before args U = true := by
  obtain ⟨c, k, i, f, a, cell, h1, h2, h3, h4, h5, h6, h7, h8, h9, ⟨⟨v, hv⟩, h10⟩, h11⟩ := h
  have he : (Term.static Bundle.tN n d).eval args U none [] U = cell.slots[f.slot]? := by
    simp [Term.eval, State.fieldNamed?, h2, h3, h4, h5, h6]
  show (Jvm.Cond.isRef (.static Bundle.tN n d)).holds args U none U [] = true
  simp only [Cond.holds, Cond.value]
  rw [he, h10]
  cases v <;> simp [Value.isRef] at hv <;> rfl
end MQZ
def mq_Y (A : Nat → Prop) (U : State) (H : Heap) : Prop := mq_Zs "UNASSIGNED_STACK" Bundle.steD A U H ∧ mq_Zs "SUPPRESSED_SENTINEL" Bundle.listD A U H
/-- how a throw ends -/
def mq_QT (E : mEv) (D : va_G) (cl : List vw_C) (tys : List (ClassId × FieldType)) (A : Nat → Prop) (ad0 : Nat × Nat → Nat) (refs0 : List (Nat × Nat)) (cls : String) (M' : mMm) : Array Value → State → Outcome → State → Prop := fun _ st oc t =>
  (∃ (ad : Nat × Nat → Nat) (refs : List (Nat × Nat)) (a : Nat) (ce : Cell), oc = .threw a ∧ t.heap[a]? = some ce ∧ ce.vm = .none ∧ st.vm.findClass cls = some ce.cls ∧ (∀ r, r ∈ refs0 → r ∈ refs) ∧ (∀ r, mq_vr refs0 r → ad r = ad0 r) ∧ va_P D cl (mq_W E ad refs M') t.heap ∧ va_K D cl tys t ∧ va_D A (mq_W E ad refs M') ∧ mq_V E M' refs) ∧ va_F A st t
def mq_MT (l : Launch) (y : MethodName) (ws : List Cond) (rm : Room) (Pc : Array Value → State → Prop) (Qc : Array Value → State → Outcome → State → Prop) (mc ms : Nat) (free : Addr → Prop) : Prop :=
  MetFree l y (headSpec ws rm) Pc (fun _ _ _ _ _ => True) (fun a st o t => Qc a st o t ∧ ∃ L, FramedT st o t L mc ms ∧ ∀ q ∈ L, free q.base)
def mq_MQT (below : List Frame) (Qc : Array Value → State → Outcome → State → Prop) (a : Array Value) (s : State) (mc ms : Nat) (free : Addr → Prop) : State → Prop := fun t =>
  ∃ o, t.status = .running ∧ Ended t below o ∧ Qc a s o t ∧ ∃ L, FramedT s o t L mc ms ∧ ∀ q ∈ L, free q.base
theorem mq_MT_ofW {l : Launch} {y : MethodName} {ws ws' : List Cond} {rm : Room} {Pc : Array Value → State → Prop} {Qc : Array Value → State → Outcome → State → Prop} {mc ms : Nat} {free : Addr → Prop} {cc : ByteArray} {maxL : Nat} {ret : Option FieldType}
    (hy : plainName y.cls = true) (hw : ws = Cond.code y cc maxL ret :: ws')
    (body : ∀ p e s m args below meth c s₁, BodyLoose p l y (headSpec ws rm) cc maxL ret e s m args below meth c s₁ → c.maxLocals = maxL → Pc args s →
      W p l e (headSpec ws rm).room s m args below meth c s.heap [] 0 0 (mq_MQT below Qc args s mc ms free) (entryFrame m args maxL)) : mq_MT l y ws rm Pc Qc mc ms free := by
  refine MetFree.of_bodyS (code := cc) (maxLocals := maxL) (ret := ret) hy ?_ ?_
  · intro args s m h hn
    obtain ⟨meth, c, h1, h2, h3, h4, h5, h6, -, -⟩ := Cond.code_spec hn (atoms_spec (ws := ws) h _ (by rw [hw]; exact List.mem_cons_self))
    exact ⟨meth, c, h1, h2, h3, h4, h5, h6⟩
  · intro p e s m args below meth c s₁ B hml hP _
    have hh0 : s₁.heap = s.heap := by rw [B.state]; rfl
    obtain ⟨t, a1, o, b1, b2, b3⟩ := body p e s m args below meth c s₁ B hml hP s₁ hh0 (Stand.of_body B)
    exact ⟨t, o, a1, b1, b2, ⟨b3.1, b3.2⟩⟩
section MQH
variable {p : Program} {l : Launch} {e : Env} {R : Room} {s : State} {m : MethodId} {args : Array Value} {below : List Frame} {meth : Method} {c : Code}
variable {cc : ByteArray} {nL : Nat} {own : String} {Ts : List Cond} {D : va_G} {cl : List vw_C} {tys : List (ClassId × FieldType)} {A : Nat → Prop} {X : State → Prop} {E : mEv} {ad0 : Nat × Nat → Nat} {refs0 : List (Nat × Nat)}
variable {pc : Nat} {lv : List (Nat × mLV)} {M : mMm} {cs ss mc ms : Nat}
theorem mq_g_throw (C : mq_C p s m args c cc nL own Ts D cl tys A X) (htr : e.platform.stackTraces = false) (hlocks : meth.locks = false) (hemp : c.exceptionTable.isEmpty = true) (hAs : ∀ (q : Nat) (cell : Cell), A q → s.heap[q]? = some cell → cell.vm.isStatics = false)
    {cls tx : String} {names : List String} {ix is ic a0 : Nat} (hcls : Bundle.fit cls = true) (hnames : ∀ n ∈ names, Bundle.fit n = true) (hat : ∀ a ∈ Bundle.ownAtoms own ic cls names, a.before args s = true)
    (hcl : Jvm.Cond.classLink own ix cls ∈ Ts) (hins : Jvm.Cond.instantiable cls 6 ∈ Ts) (hini : Jvm.Cond.initialized cls ∈ Ts) (hstr : vk_R own is tx a0 s)
    (hd0 : decode cc pc = .ok (.new ix, 3)) (hd3 : decode cc (pc + 3) = .ok (.dup, 1)) (hd4 : decode cc (pc + 4) = .ok (.ldc is, 2)) (hd6 : decode cc (pc + 6) = .ok (.invokespecial ic, 3)) (hd9 : decode cc (pc + 9) = .ok (.athrow, 1))
    (hR : names.length + 3 < R.frames ∧ 13 * (names.length + 1) + 43 ≤ R.locals) (hf : cs + 1 ≤ R.cells ∧ ss + 6 ≤ R.slots) (hm : cs + 1 ≤ mc ∧ ss + 6 ≤ ms) :
    mq_G p l e R s m args below meth c (mq_MQT below (mq_QT E D cl tys A ad0 refs0 cls M) args s mc ms A) nL E D cl A ad0 refs0 pc lv [] M cs ss := by
  intro H locs ls ad refs hB hl hvl hvs
  obtain ⟨cX, hfc⟩ : ∃ cX, s.vm.findClass cls = some cX := by
    obtain ⟨c1, k1, hc1, -⟩ := Cond.instantiable_spec (C.2.2.2.2.1 _ hins)
    exact ⟨c1, hc1⟩
  refine W.newcK C.1 C.2.1 C.2.2.2.1 (C.2.2.2.2.1 _ hcl) (C.2.2.2.2.1 _ hins) (C.2.2.2.2.1 _ hini) rfl hd0 hf.1 hf.2 hfc rfl fun H' kC hkC e1 z1 o1 => ?_
  refine W.eq (g2 := F0 m (pc + 3) ls [.ref H.size]) rfl ?_
  refine lv_dup C.1 C.2.1 hd3 rfl ?_
  refine va_ldcS C.1 C.2.1 C.2.2.2.1 hstr hd4 ?_
  refine W.widen hm.1 hm.2 ?_
  intro T hT X0
  obtain ⟨U, st, hrun, hend, hW, hsame, ⟨ce, hce, hv, hcc⟩, hz, hq⟩ := mq_ctorThrow (names := names) (msg := .ref a0) (rest := []) X0 C.1 htr C.2.2.2.1 hcls hnames hat (fun x hx cell hcell => hAs x.base cell (hB.2.2.1.2.2 x hx) hcell) hfc hkC (by rw [hT]; exact e1) hB.2.2.1.1 rfl (g := F0 m (pc + 6) ls [.ref a0, .ref H.size, .ref H.size]) rfl (by rw [C.2.2.1]; exact hl.1) rfl rfl rfl (by rw [C.2.1]; exact hd6) (by rw [C.2.1]; exact hd9)
    (fun x hx => by rw [Array.isEmpty_iff.mp hemp] at hx; cases hx) hR.1 (by show 2 * 0 + 1 + _ ≤ _; omega) hlocks
  have hkeep : ∀ q : Nat, q < H.size → U.heap[q]? = H[q]? := fun q hlt => by
    rw [hq q (Nat.ne_of_lt hlt), hT]
    exact o1 q hlt
  refine ⟨U, st, .threw H.size, hrun, hend, ⟨⟨ad, refs, H.size, ce, rfl, hce, hv, by rw [hcc]; exact hfc, hB.2.2.2.2.1, hB.2.2.2.2.2, hB.1.kept (fun k q hk => hkeep q.1 (hB.1 k q hk).lt), va_K.moved hW.alike C.2.2.2.2.2.1, hB.2.1, hB.2.2.2.1⟩, ?_, fun q h1 h2 => ?_⟩, locs, ⟨⟨_, rfl⟩, hW, hsame⟩, hB.2.2.1.2.2⟩
  · rw [hz, hT, z1]
    exact Nat.le_succ_of_le hB.2.2.1.1
  · rw [hkeep q (Nat.lt_of_lt_of_le h1 hB.2.2.1.1)]
    exact hB.2.2.1.2.1 q h1 h2
end MQH
/-- a throw's place is as the class file and the tables have it -/
def mq_okt (cc : ByteArray) (own : String) (Ts : List Cond) (ki : Nat → Nat × Nat × Nat) (exn : Nat → String) (names : List String) (Wd : State → Prop) (en : mEn) : Prop :=
  ∀ ix, en.2.1 = .new ix → (ki en.2.2.2.1).1 = 8 → Bundle.fit (exn en.2.2.2.1) = true ∧ Jvm.Cond.classLink own ix (exn en.2.2.2.1) ∈ Ts ∧ Jvm.Cond.instantiable (exn en.2.2.2.1) 6 ∈ Ts ∧ Jvm.Cond.initialized (exn en.2.2.2.1) ∈ Ts ∧ ∃ (is ic : Nat) (tx : String), (∀ s : State, Wd s → ∃ a0, vk_R own is tx a0 s) ∧
    (decode cc en.1 = .ok (.new ix, 3) ∧ decode cc (en.1 + 3) = .ok (.dup, 1) ∧ decode cc (en.1 + 4) = .ok (.ldc is, 2) ∧ decode cc (en.1 + 6) = .ok (.invokespecial ic, 3) ∧ decode cc (en.1 + 9) = .ok (.athrow, 1)) ∧
    ∀ (A : Nat → Prop) (args : Array Value) (s : State), (∀ w ∈ Ts, w.before args s = true) → Wd s → mq_Y A s s.heap → ∀ a ∈ Bundle.ownAtoms own ic (exn en.2.2.2.1) names, a.before args s = true
end
section
/-! The throws of the class: their words, and where they stand. -/
def pg_W (U : State) : Prop := va_Nw (.declares ({ cls := "java/lang/RuntimeException", name := "<init>", desc := "(Ljava/lang/String;)V" } : Jvm.MethodName)) U ∧ va_Nw (.declares ({ cls := "java/lang/Exception", name := "<init>", desc := "(Ljava/lang/String;)V" } : Jvm.MethodName)) U ∧ va_Nw (.declares ({ cls := "java/lang/Throwable", name := "<init>", desc := "(Ljava/lang/String;)V" } : Jvm.MethodName)) U ∧ va_Nw (.castable "java/lang/IndexOutOfBoundsException" "java/lang/IndexOutOfBoundsException") U ∧ va_Nw (.castable "java/lang/IllegalArgumentException" "java/lang/IllegalArgumentException") U ∧ va_Nw (.castable "java/lang/IllegalStateException" "java/lang/IllegalStateException") U ∧ (∃ a0, vk_R "PartitionKernel" 45 "no such partition" a0 U) ∧ (∃ a0, vk_R "PartitionKernel" 52 "ticks are not 1 .. 100" a0 U) ∧ (∃ a0, vk_R "PartitionKernel" 65 "it has begun, or there are 8 windows" a0 U) ∧ (∃ a0, vk_R "PartitionKernel" 78 "no such priority, period or deadline" a0 U) ∧ (∃ a0, vk_R "PartitionKernel" 83 "it has begun, or there are 8 processes" a0 U) ∧ (∃ a0, vk_R "PartitionKernel" 85 "no such partitions" a0 U) ∧ (∃ a0, vk_R "PartitionKernel" 87 "no such limit" a0 U) ∧ (∃ a0, vk_R "PartitionKernel" 93 "it has begun, or there are 8 channels" a0 U) ∧ (∃ a0, vk_R "PartitionKernel" 99 "no such partition or error" a0 U) ∧ (∃ a0, vk_R "PartitionKernel" 101 "no such action" a0 U) ∧ (∃ a0, vk_R "PartitionKernel" 112 "no such partition or place" a0 U) ∧ (∃ a0, vk_R "PartitionKernel" 125 "it has begun, or there is no window" a0 U) ∧ (∃ a0, vk_R "PartitionKernel" 133 "it has not begun" a0 U) ∧ (∃ a0, vk_R "PartitionKernel" 135 "n is not 0 .. 500" a0 U)
theorem pg_W_warm : ∀ u U : State, u.WarmedH U.vm → pg_W u → pg_W U := fun u U hW h => ⟨h.1.warmD hW, h.2.1.warmD hW, h.2.2.1.warmD hW, h.2.2.2.1.warmC hW, h.2.2.2.2.1.warmC hW, h.2.2.2.2.2.1.warmC hW, h.2.2.2.2.2.2.1.imp (fun _ z => z.warm hW), h.2.2.2.2.2.2.2.1.imp (fun _ z => z.warm hW), h.2.2.2.2.2.2.2.2.1.imp (fun _ z => z.warm hW), h.2.2.2.2.2.2.2.2.2.1.imp (fun _ z => z.warm hW), h.2.2.2.2.2.2.2.2.2.2.1.imp (fun _ z => z.warm hW), h.2.2.2.2.2.2.2.2.2.2.2.1.imp (fun _ z => z.warm hW), h.2.2.2.2.2.2.2.2.2.2.2.2.1.imp (fun _ z => z.warm hW), h.2.2.2.2.2.2.2.2.2.2.2.2.2.1.imp (fun _ z => z.warm hW), h.2.2.2.2.2.2.2.2.2.2.2.2.2.2.1.imp (fun _ z => z.warm hW), h.2.2.2.2.2.2.2.2.2.2.2.2.2.2.2.1.imp (fun _ z => z.warm hW), h.2.2.2.2.2.2.2.2.2.2.2.2.2.2.2.2.1.imp (fun _ z => z.warm hW), h.2.2.2.2.2.2.2.2.2.2.2.2.2.2.2.2.2.1.imp (fun _ z => z.warm hW), h.2.2.2.2.2.2.2.2.2.2.2.2.2.2.2.2.2.2.1.imp (fun _ z => z.warm hW), h.2.2.2.2.2.2.2.2.2.2.2.2.2.2.2.2.2.2.2.imp (fun _ z => z.warm hW)⟩
theorem gx_53 (mi : Nat) : (Jvm.Cond.initialized "java/lang/Throwable") ∈ mq_ws pg_Z mi := mq_gw 53 mi (by decide +kernel) (by decide +kernel)
theorem gx_56 (mi : Nat) : (Jvm.Cond.initialized "java/lang/IndexOutOfBoundsException") ∈ mq_ws pg_Z mi := mq_gw 56 mi (by decide +kernel) (by decide +kernel)
theorem gx_57 (mi : Nat) : (Jvm.Cond.initialized "java/lang/IllegalArgumentException") ∈ mq_ws pg_Z mi := mq_gw 57 mi (by decide +kernel) (by decide +kernel)
theorem gx_58 (mi : Nat) : (Jvm.Cond.initialized "java/lang/IllegalStateException") ∈ mq_ws pg_Z mi := mq_gw 58 mi (by decide +kernel) (by decide +kernel)
theorem gx_67 (mi : Nat) : (Jvm.Cond.instanceMethod ({ cls := "java/lang/Object", name := "<init>", desc := "()V" } : Jvm.MethodName)) ∈ mq_ws pg_Z mi := mq_gw 67 mi (by decide +kernel) (by decide +kernel)
theorem gx_68 (mi : Nat) : (Jvm.Cond.code ({ cls := "java/lang/Object", name := "<init>", desc := "()V" } : Jvm.MethodName) object_method_1_code (1 : Nat) (Option.none : Option Jvm.ClassFile.FieldType)) ∈ mq_ws pg_Z mi := mq_gw 68 mi (by decide +kernel) (by decide +kernel)
theorem gx_414 (mi : Nat) : (Jvm.Cond.classLink "PartitionKernel" (43 : Nat) "java/lang/IndexOutOfBoundsException") ∈ mq_ws pg_Z mi := mq_gw 414 mi (by decide +kernel) (by decide +kernel)
theorem gx_415 (mi : Nat) : (Jvm.Cond.instantiable "java/lang/IndexOutOfBoundsException" (6 : Nat)) ∈ mq_ws pg_Z mi := mq_gw 415 mi (by decide +kernel) (by decide +kernel)
theorem gx_423 (mi : Nat) : (Jvm.Cond.selects "java/lang/IndexOutOfBoundsException" ({ cls := "java/lang/Throwable", name := "fillInStackTrace", desc := "(I)Ljava/lang/Throwable;" } : Jvm.MethodName) ({ cls := "java/lang/Throwable", name := "fillInStackTrace", desc := "(I)Ljava/lang/Throwable;" } : Jvm.MethodName)) ∈ mq_ws pg_Z mi := mq_gw 423 mi (by decide +kernel) (by decide +kernel)
theorem gx_424 (mi : Nat) : (Jvm.Cond.selects "java/lang/IndexOutOfBoundsException" ({ cls := "java/lang/Throwable", name := "fillInStackTrace", desc := "()Ljava/lang/Throwable;" } : Jvm.MethodName) ({ cls := "java/lang/Throwable", name := "fillInStackTrace", desc := "()Ljava/lang/Throwable;" } : Jvm.MethodName)) ∈ mq_ws pg_Z mi := mq_gw 424 mi (by decide +kernel) (by decide +kernel)
theorem gx_425 (mi : Nat) : (Jvm.Cond.lays "java/lang/IndexOutOfBoundsException" "java/lang/Throwable" "cause" "Ljava/lang/Throwable;") ∈ mq_ws pg_Z mi := mq_gw 425 mi (by decide +kernel) (by decide +kernel)
theorem gx_426 (mi : Nat) : (Jvm.Cond.lays "java/lang/Throwable" "java/lang/Throwable" "cause" "Ljava/lang/Throwable;") ∈ mq_ws pg_Z mi := mq_gw 426 mi (by decide +kernel) (by decide +kernel)
theorem gx_427 (mi : Nat) : (Jvm.Cond.lays "java/lang/IndexOutOfBoundsException" "java/lang/Throwable" "stackTrace" "[Ljava/lang/StackTraceElement;") ∈ mq_ws pg_Z mi := mq_gw 427 mi (by decide +kernel) (by decide +kernel)
theorem gx_428 (mi : Nat) : (Jvm.Cond.lays "java/lang/Throwable" "java/lang/Throwable" "stackTrace" "[Ljava/lang/StackTraceElement;") ∈ mq_ws pg_Z mi := mq_gw 428 mi (by decide +kernel) (by decide +kernel)
theorem gx_429 (mi : Nat) : (Jvm.Cond.lays "java/lang/IndexOutOfBoundsException" "java/lang/Throwable" "suppressedExceptions" "Ljava/util/List;") ∈ mq_ws pg_Z mi := mq_gw 429 mi (by decide +kernel) (by decide +kernel)
theorem gx_430 (mi : Nat) : (Jvm.Cond.lays "java/lang/Throwable" "java/lang/Throwable" "suppressedExceptions" "Ljava/util/List;") ∈ mq_ws pg_Z mi := mq_gw 430 mi (by decide +kernel) (by decide +kernel)
theorem gx_431 (mi : Nat) : (Jvm.Cond.lays "java/lang/IndexOutOfBoundsException" "java/lang/Throwable" "detailMessage" "Ljava/lang/String;") ∈ mq_ws pg_Z mi := mq_gw 431 mi (by decide +kernel) (by decide +kernel)
theorem gx_432 (mi : Nat) : (Jvm.Cond.lays "java/lang/Throwable" "java/lang/Throwable" "detailMessage" "Ljava/lang/String;") ∈ mq_ws pg_Z mi := mq_gw 432 mi (by decide +kernel) (by decide +kernel)
theorem gx_433 (mi : Nat) : (Jvm.Cond.lays "java/lang/IndexOutOfBoundsException" "java/lang/Throwable" "backtrace" "Ljava/lang/Object;") ∈ mq_ws pg_Z mi := mq_gw 433 mi (by decide +kernel) (by decide +kernel)
theorem gx_434 (mi : Nat) : (Jvm.Cond.lays "java/lang/Throwable" "java/lang/Throwable" "backtrace" "Ljava/lang/Object;") ∈ mq_ws pg_Z mi := mq_gw 434 mi (by decide +kernel) (by decide +kernel)
theorem gx_435 (mi : Nat) : (Jvm.Cond.fieldLink "java/lang/Throwable" (198 : Nat) "java/lang/Throwable" "backtrace" "Ljava/lang/Object;") ∈ mq_ws pg_Z mi := mq_gw 435 mi (by decide +kernel) (by decide +kernel)
theorem gx_436 (mi : Nat) : (Jvm.Cond.superclass "java/lang/Throwable" "java/lang/Object") ∈ mq_ws pg_Z mi := mq_gw 436 mi (by decide +kernel) (by decide +kernel)
theorem gx_437 (mi : Nat) : (Jvm.Cond.instanceMethod ({ cls := "java/lang/Throwable", name := "<init>", desc := "()V" } : Jvm.MethodName)) ∈ mq_ws pg_Z mi := mq_gw 437 mi (by decide +kernel) (by decide +kernel)
theorem gx_438 (mi : Nat) : (Jvm.Cond.code ({ cls := "java/lang/Throwable", name := "<init>", desc := "()V" } : Jvm.MethodName) prog_18_method_1_code (1 : Nat) (Option.none : Option Jvm.ClassFile.FieldType)) ∈ mq_ws pg_Z mi := mq_gw 438 mi (by decide +kernel) (by decide +kernel)
theorem gx_439 (mi : Nat) : (Jvm.Cond.methodLink "java/lang/Throwable" (1 : Nat) ({ cls := "java/lang/Object", name := "<init>", desc := "()V" } : Jvm.MethodName)) ∈ mq_ws pg_Z mi := mq_gw 439 mi (by decide +kernel) (by decide +kernel)
theorem gx_440 (mi : Nat) : (Jvm.Cond.fieldLink "java/lang/Throwable" (13 : Nat) "java/lang/Throwable" "UNASSIGNED_STACK" "[Ljava/lang/StackTraceElement;") ∈ mq_ws pg_Z mi := mq_gw 440 mi (by decide +kernel) (by decide +kernel)
theorem gx_442 (mi : Nat) : (Jvm.Cond.fieldLink "java/lang/Throwable" (20 : Nat) "java/lang/Throwable" "SUPPRESSED_SENTINEL" "Ljava/util/List;") ∈ mq_ws pg_Z mi := mq_gw 442 mi (by decide +kernel) (by decide +kernel)
theorem gx_444 (mi : Nat) : (Jvm.Cond.methodLink "java/lang/Throwable" (27 : Nat) ({ cls := "java/lang/Throwable", name := "fillInStackTrace", desc := "()Ljava/lang/Throwable;" } : Jvm.MethodName)) ∈ mq_ws pg_Z mi := mq_gw 444 mi (by decide +kernel) (by decide +kernel)
theorem gx_445 (mi : Nat) : (Jvm.Cond.instanceMethod ({ cls := "java/lang/Throwable", name := "fillInStackTrace", desc := "()Ljava/lang/Throwable;" } : Jvm.MethodName)) ∈ mq_ws pg_Z mi := mq_gw 445 mi (by decide +kernel) (by decide +kernel)
theorem gx_447 (mi : Nat) : (Jvm.Cond.selects "java/lang/IllegalArgumentException" ({ cls := "java/lang/Throwable", name := "fillInStackTrace", desc := "()Ljava/lang/Throwable;" } : Jvm.MethodName) ({ cls := "java/lang/Throwable", name := "fillInStackTrace", desc := "()Ljava/lang/Throwable;" } : Jvm.MethodName)) ∈ mq_ws pg_Z mi := mq_gw 447 mi (by decide +kernel) (by decide +kernel)
theorem gx_448 (mi : Nat) : (Jvm.Cond.selects "java/lang/IllegalStateException" ({ cls := "java/lang/Throwable", name := "fillInStackTrace", desc := "()Ljava/lang/Throwable;" } : Jvm.MethodName) ({ cls := "java/lang/Throwable", name := "fillInStackTrace", desc := "()Ljava/lang/Throwable;" } : Jvm.MethodName)) ∈ mq_ws pg_Z mi := mq_gw 448 mi (by decide +kernel) (by decide +kernel)
theorem gx_449 (mi : Nat) : (Jvm.Cond.codeSync ({ cls := "java/lang/Throwable", name := "fillInStackTrace", desc := "()Ljava/lang/Throwable;" } : Jvm.MethodName) prog_18_method_18_code (1 : Nat) (Option.some (Jvm.ClassFile.FieldType.object "java/lang/Throwable"))) ∈ mq_ws pg_Z mi := mq_gw 449 mi (by decide +kernel) (by decide +kernel)
theorem gx_450 (mi : Nat) : (Jvm.Cond.methodLink "java/lang/Throwable" (202 : Nat) ({ cls := "java/lang/Throwable", name := "fillInStackTrace", desc := "(I)Ljava/lang/Throwable;" } : Jvm.MethodName)) ∈ mq_ws pg_Z mi := mq_gw 450 mi (by decide +kernel) (by decide +kernel)
theorem gx_452 (mi : Nat) : (Jvm.Cond.instanceMethod ({ cls := "java/lang/Throwable", name := "fillInStackTrace", desc := "(I)Ljava/lang/Throwable;" } : Jvm.MethodName)) ∈ mq_ws pg_Z mi := mq_gw 452 mi (by decide +kernel) (by decide +kernel)
theorem gx_454 (mi : Nat) : (Jvm.Cond.native ({ cls := "java/lang/Throwable", name := "fillInStackTrace", desc := "(I)Ljava/lang/Throwable;" } : Jvm.MethodName)) ∈ mq_ws pg_Z mi := mq_gw 454 mi (by decide +kernel) (by decide +kernel)
theorem gx_456 (mi : Nat) : (Jvm.Cond.methodLink "PartitionKernel" (47 : Nat) ({ cls := "java/lang/IndexOutOfBoundsException", name := "<init>", desc := "(Ljava/lang/String;)V" } : Jvm.MethodName)) ∈ mq_ws pg_Z mi := mq_gw 456 mi (by decide +kernel) (by decide +kernel)
theorem gx_457 (mi : Nat) : (Jvm.Cond.instanceMethod ({ cls := "java/lang/IndexOutOfBoundsException", name := "<init>", desc := "(Ljava/lang/String;)V" } : Jvm.MethodName)) ∈ mq_ws pg_Z mi := mq_gw 457 mi (by decide +kernel) (by decide +kernel)
theorem gx_458 (mi : Nat) : (Jvm.Cond.code ({ cls := "java/lang/IndexOutOfBoundsException", name := "<init>", desc := "(Ljava/lang/String;)V" } : Jvm.MethodName) prog_14_method_2_code (2 : Nat) (Option.none : Option Jvm.ClassFile.FieldType)) ∈ mq_ws pg_Z mi := mq_gw 458 mi (by decide +kernel) (by decide +kernel)
theorem gx_459 (mi : Nat) : (Jvm.Cond.methodLink "java/lang/IndexOutOfBoundsException" (7 : Nat) ({ cls := "java/lang/RuntimeException", name := "<init>", desc := "(Ljava/lang/String;)V" } : Jvm.MethodName)) ∈ mq_ws pg_Z mi := mq_gw 459 mi (by decide +kernel) (by decide +kernel)
theorem gx_460 (mi : Nat) : (Jvm.Cond.instanceMethod ({ cls := "java/lang/RuntimeException", name := "<init>", desc := "(Ljava/lang/String;)V" } : Jvm.MethodName)) ∈ mq_ws pg_Z mi := mq_gw 460 mi (by decide +kernel) (by decide +kernel)
theorem gx_461 (mi : Nat) : (Jvm.Cond.code ({ cls := "java/lang/RuntimeException", name := "<init>", desc := "(Ljava/lang/String;)V" } : Jvm.MethodName) prog_16_method_2_code (2 : Nat) (Option.none : Option Jvm.ClassFile.FieldType)) ∈ mq_ws pg_Z mi := mq_gw 461 mi (by decide +kernel) (by decide +kernel)
theorem gx_462 (mi : Nat) : (Jvm.Cond.methodLink "java/lang/RuntimeException" (7 : Nat) ({ cls := "java/lang/Exception", name := "<init>", desc := "(Ljava/lang/String;)V" } : Jvm.MethodName)) ∈ mq_ws pg_Z mi := mq_gw 462 mi (by decide +kernel) (by decide +kernel)
theorem gx_463 (mi : Nat) : (Jvm.Cond.instanceMethod ({ cls := "java/lang/Exception", name := "<init>", desc := "(Ljava/lang/String;)V" } : Jvm.MethodName)) ∈ mq_ws pg_Z mi := mq_gw 463 mi (by decide +kernel) (by decide +kernel)
theorem gx_464 (mi : Nat) : (Jvm.Cond.code ({ cls := "java/lang/Exception", name := "<init>", desc := "(Ljava/lang/String;)V" } : Jvm.MethodName) prog_11_method_2_code (2 : Nat) (Option.none : Option Jvm.ClassFile.FieldType)) ∈ mq_ws pg_Z mi := mq_gw 464 mi (by decide +kernel) (by decide +kernel)
theorem gx_465 (mi : Nat) : (Jvm.Cond.methodLink "java/lang/Exception" (7 : Nat) ({ cls := "java/lang/Throwable", name := "<init>", desc := "(Ljava/lang/String;)V" } : Jvm.MethodName)) ∈ mq_ws pg_Z mi := mq_gw 465 mi (by decide +kernel) (by decide +kernel)
theorem gx_466 (mi : Nat) : (Jvm.Cond.instanceMethod ({ cls := "java/lang/Throwable", name := "<init>", desc := "(Ljava/lang/String;)V" } : Jvm.MethodName)) ∈ mq_ws pg_Z mi := mq_gw 466 mi (by decide +kernel) (by decide +kernel)
theorem gx_467 (mi : Nat) : (Jvm.Cond.code ({ cls := "java/lang/Throwable", name := "<init>", desc := "(Ljava/lang/String;)V" } : Jvm.MethodName) prog_18_method_2_code (2 : Nat) (Option.none : Option Jvm.ClassFile.FieldType)) ∈ mq_ws pg_Z mi := mq_gw 467 mi (by decide +kernel) (by decide +kernel)
theorem gx_469 (mi : Nat) : (Jvm.Cond.fieldLink "java/lang/Throwable" (31 : Nat) "java/lang/Throwable" "detailMessage" "Ljava/lang/String;") ∈ mq_ws pg_Z mi := mq_gw 469 mi (by decide +kernel) (by decide +kernel)
theorem gx_470 (mi : Nat) : (Jvm.Cond.fieldLink "java/lang/Throwable" (7 : Nat) "java/lang/Throwable" "cause" "Ljava/lang/Throwable;") ∈ mq_ws pg_Z mi := mq_gw 470 mi (by decide +kernel) (by decide +kernel)
theorem gx_471 (mi : Nat) : (Jvm.Cond.fieldLink "java/lang/Throwable" (17 : Nat) "java/lang/Throwable" "stackTrace" "[Ljava/lang/StackTraceElement;") ∈ mq_ws pg_Z mi := mq_gw 471 mi (by decide +kernel) (by decide +kernel)
theorem gx_472 (mi : Nat) : (Jvm.Cond.fieldLink "java/lang/Throwable" (24 : Nat) "java/lang/Throwable" "suppressedExceptions" "Ljava/util/List;") ∈ mq_ws pg_Z mi := mq_gw 472 mi (by decide +kernel) (by decide +kernel)
theorem gx_482 (mi : Nat) : (Jvm.Cond.classLink "PartitionKernel" (50 : Nat) "java/lang/IllegalArgumentException") ∈ mq_ws pg_Z mi := mq_gw 482 mi (by decide +kernel) (by decide +kernel)
theorem gx_483 (mi : Nat) : (Jvm.Cond.instantiable "java/lang/IllegalArgumentException" (6 : Nat)) ∈ mq_ws pg_Z mi := mq_gw 483 mi (by decide +kernel) (by decide +kernel)
theorem gx_485 (mi : Nat) : (Jvm.Cond.selects "java/lang/IllegalArgumentException" ({ cls := "java/lang/Throwable", name := "fillInStackTrace", desc := "(I)Ljava/lang/Throwable;" } : Jvm.MethodName) ({ cls := "java/lang/Throwable", name := "fillInStackTrace", desc := "(I)Ljava/lang/Throwable;" } : Jvm.MethodName)) ∈ mq_ws pg_Z mi := mq_gw 485 mi (by decide +kernel) (by decide +kernel)
theorem gx_486 (mi : Nat) : (Jvm.Cond.lays "java/lang/IllegalArgumentException" "java/lang/Throwable" "cause" "Ljava/lang/Throwable;") ∈ mq_ws pg_Z mi := mq_gw 486 mi (by decide +kernel) (by decide +kernel)
theorem gx_487 (mi : Nat) : (Jvm.Cond.lays "java/lang/IllegalArgumentException" "java/lang/Throwable" "stackTrace" "[Ljava/lang/StackTraceElement;") ∈ mq_ws pg_Z mi := mq_gw 487 mi (by decide +kernel) (by decide +kernel)
theorem gx_488 (mi : Nat) : (Jvm.Cond.lays "java/lang/IllegalArgumentException" "java/lang/Throwable" "suppressedExceptions" "Ljava/util/List;") ∈ mq_ws pg_Z mi := mq_gw 488 mi (by decide +kernel) (by decide +kernel)
theorem gx_489 (mi : Nat) : (Jvm.Cond.lays "java/lang/IllegalArgumentException" "java/lang/Throwable" "detailMessage" "Ljava/lang/String;") ∈ mq_ws pg_Z mi := mq_gw 489 mi (by decide +kernel) (by decide +kernel)
theorem gx_490 (mi : Nat) : (Jvm.Cond.lays "java/lang/IllegalArgumentException" "java/lang/Throwable" "backtrace" "Ljava/lang/Object;") ∈ mq_ws pg_Z mi := mq_gw 490 mi (by decide +kernel) (by decide +kernel)
theorem gx_492 (mi : Nat) : (Jvm.Cond.methodLink "PartitionKernel" (54 : Nat) ({ cls := "java/lang/IllegalArgumentException", name := "<init>", desc := "(Ljava/lang/String;)V" } : Jvm.MethodName)) ∈ mq_ws pg_Z mi := mq_gw 492 mi (by decide +kernel) (by decide +kernel)
theorem gx_493 (mi : Nat) : (Jvm.Cond.instanceMethod ({ cls := "java/lang/IllegalArgumentException", name := "<init>", desc := "(Ljava/lang/String;)V" } : Jvm.MethodName)) ∈ mq_ws pg_Z mi := mq_gw 493 mi (by decide +kernel) (by decide +kernel)
theorem gx_494 (mi : Nat) : (Jvm.Cond.code ({ cls := "java/lang/IllegalArgumentException", name := "<init>", desc := "(Ljava/lang/String;)V" } : Jvm.MethodName) prog_12_method_2_code (2 : Nat) (Option.none : Option Jvm.ClassFile.FieldType)) ∈ mq_ws pg_Z mi := mq_gw 494 mi (by decide +kernel) (by decide +kernel)
theorem gx_495 (mi : Nat) : (Jvm.Cond.methodLink "java/lang/IllegalArgumentException" (7 : Nat) ({ cls := "java/lang/RuntimeException", name := "<init>", desc := "(Ljava/lang/String;)V" } : Jvm.MethodName)) ∈ mq_ws pg_Z mi := mq_gw 495 mi (by decide +kernel) (by decide +kernel)
theorem gx_502 (mi : Nat) : (Jvm.Cond.classLink "PartitionKernel" (63 : Nat) "java/lang/IllegalStateException") ∈ mq_ws pg_Z mi := mq_gw 502 mi (by decide +kernel) (by decide +kernel)
theorem gx_503 (mi : Nat) : (Jvm.Cond.instantiable "java/lang/IllegalStateException" (6 : Nat)) ∈ mq_ws pg_Z mi := mq_gw 503 mi (by decide +kernel) (by decide +kernel)
theorem gx_505 (mi : Nat) : (Jvm.Cond.selects "java/lang/IllegalStateException" ({ cls := "java/lang/Throwable", name := "fillInStackTrace", desc := "(I)Ljava/lang/Throwable;" } : Jvm.MethodName) ({ cls := "java/lang/Throwable", name := "fillInStackTrace", desc := "(I)Ljava/lang/Throwable;" } : Jvm.MethodName)) ∈ mq_ws pg_Z mi := mq_gw 505 mi (by decide +kernel) (by decide +kernel)
theorem gx_506 (mi : Nat) : (Jvm.Cond.lays "java/lang/IllegalStateException" "java/lang/Throwable" "cause" "Ljava/lang/Throwable;") ∈ mq_ws pg_Z mi := mq_gw 506 mi (by decide +kernel) (by decide +kernel)
theorem gx_507 (mi : Nat) : (Jvm.Cond.lays "java/lang/IllegalStateException" "java/lang/Throwable" "stackTrace" "[Ljava/lang/StackTraceElement;") ∈ mq_ws pg_Z mi := mq_gw 507 mi (by decide +kernel) (by decide +kernel)
theorem gx_508 (mi : Nat) : (Jvm.Cond.lays "java/lang/IllegalStateException" "java/lang/Throwable" "suppressedExceptions" "Ljava/util/List;") ∈ mq_ws pg_Z mi := mq_gw 508 mi (by decide +kernel) (by decide +kernel)
theorem gx_509 (mi : Nat) : (Jvm.Cond.lays "java/lang/IllegalStateException" "java/lang/Throwable" "detailMessage" "Ljava/lang/String;") ∈ mq_ws pg_Z mi := mq_gw 509 mi (by decide +kernel) (by decide +kernel)
theorem gx_510 (mi : Nat) : (Jvm.Cond.lays "java/lang/IllegalStateException" "java/lang/Throwable" "backtrace" "Ljava/lang/Object;") ∈ mq_ws pg_Z mi := mq_gw 510 mi (by decide +kernel) (by decide +kernel)
theorem gx_512 (mi : Nat) : (Jvm.Cond.methodLink "PartitionKernel" (67 : Nat) ({ cls := "java/lang/IllegalStateException", name := "<init>", desc := "(Ljava/lang/String;)V" } : Jvm.MethodName)) ∈ mq_ws pg_Z mi := mq_gw 512 mi (by decide +kernel) (by decide +kernel)
theorem gx_513 (mi : Nat) : (Jvm.Cond.instanceMethod ({ cls := "java/lang/IllegalStateException", name := "<init>", desc := "(Ljava/lang/String;)V" } : Jvm.MethodName)) ∈ mq_ws pg_Z mi := mq_gw 513 mi (by decide +kernel) (by decide +kernel)
theorem gx_514 (mi : Nat) : (Jvm.Cond.code ({ cls := "java/lang/IllegalStateException", name := "<init>", desc := "(Ljava/lang/String;)V" } : Jvm.MethodName) prog_13_method_2_code (2 : Nat) (Option.none : Option Jvm.ClassFile.FieldType)) ∈ mq_ws pg_Z mi := mq_gw 514 mi (by decide +kernel) (by decide +kernel)
theorem gx_515 (mi : Nat) : (Jvm.Cond.methodLink "java/lang/IllegalStateException" (7 : Nat) ({ cls := "java/lang/RuntimeException", name := "<init>", desc := "(Ljava/lang/String;)V" } : Jvm.MethodName)) ∈ mq_ws pg_Z mi := mq_gw 515 mi (by decide +kernel) (by decide +kernel)
set_option maxRecDepth 100000 in
theorem pg_at_50 (mi : Nat) (A : Nat → Prop) (args : Array Value) (s : State) (hts : ∀ w ∈ mq_ws pg_Z mi, w.before args s = true) (hW : pg_W s) (hY : mq_Y A s s.heap) : ∀ a ∈ Bundle.ownAtoms "PartitionKernel" 47 "java/lang/IndexOutOfBoundsException" ["java/lang/RuntimeException", "java/lang/Exception"], a.before args s = true :=
  List.forall_mem_append.mpr ⟨List.forall_mem_append.mpr ⟨List.forall_mem_append.mpr ⟨(List.forall_mem_cons.mpr ⟨hts _ (gx_53 mi), (List.forall_mem_cons.mpr ⟨hts _ (gx_436 mi), (List.forall_mem_cons.mpr ⟨hts _ (gx_445 mi), (List.forall_mem_cons.mpr ⟨hts _ (gx_449 mi), (List.forall_mem_cons.mpr ⟨hts _ (gx_452 mi), (List.forall_mem_cons.mpr ⟨hts _ (gx_454 mi), (List.forall_mem_cons.mpr ⟨hts _ (gx_437 mi), (List.forall_mem_cons.mpr ⟨hts _ (gx_438 mi), (List.forall_mem_cons.mpr ⟨hts _ (gx_67 mi), (List.forall_mem_cons.mpr ⟨hts _ (gx_68 mi), (List.forall_mem_cons.mpr ⟨hts _ (gx_439 mi), (List.forall_mem_cons.mpr ⟨hts _ (gx_444 mi), (List.forall_mem_cons.mpr ⟨hts _ (gx_450 mi), (List.forall_mem_cons.mpr ⟨hts _ (gx_470 mi), (List.forall_mem_cons.mpr ⟨hts _ (gx_426 mi), (List.forall_mem_cons.mpr ⟨hts _ (gx_471 mi), (List.forall_mem_cons.mpr ⟨hts _ (gx_428 mi), (List.forall_mem_cons.mpr ⟨hts _ (gx_472 mi), (List.forall_mem_cons.mpr ⟨hts _ (gx_430 mi), (List.forall_mem_cons.mpr ⟨hts _ (gx_440 mi), (List.forall_mem_cons.mpr ⟨hY.1.lays, (List.forall_mem_cons.mpr ⟨hts _ (gx_442 mi), (List.forall_mem_cons.mpr ⟨hY.2.lays, (List.forall_mem_cons.mpr ⟨hts _ (gx_432 mi), (fun _ h => absurd h List.not_mem_nil)⟩)⟩)⟩)⟩)⟩)⟩)⟩)⟩)⟩)⟩)⟩)⟩)⟩)⟩)⟩)⟩)⟩)⟩)⟩)⟩)⟩)⟩)⟩)⟩), (List.forall_mem_cons.mpr ⟨hts _ (gx_466 mi), (List.forall_mem_cons.mpr ⟨hts _ (gx_467 mi), (List.forall_mem_cons.mpr ⟨hts _ (gx_469 mi), (List.forall_mem_cons.mpr ⟨hts _ (gx_432 mi), (fun _ h => absurd h List.not_mem_nil)⟩)⟩)⟩)⟩)⟩, (List.forall_mem_append.mpr ⟨(List.forall_mem_cons.mpr ⟨hts _ (gx_457 mi), (List.forall_mem_cons.mpr ⟨hts _ (gx_458 mi), (List.forall_mem_cons.mpr ⟨hts _ (gx_459 mi), (List.forall_mem_cons.mpr ⟨hts _ (gx_460 mi), (List.forall_mem_cons.mpr ⟨va_Nw.use rfl hW.1, (fun _ h => absurd h List.not_mem_nil)⟩)⟩)⟩)⟩)⟩), List.forall_mem_append.mpr ⟨(List.forall_mem_cons.mpr ⟨hts _ (gx_460 mi), (List.forall_mem_cons.mpr ⟨hts _ (gx_461 mi), (List.forall_mem_cons.mpr ⟨hts _ (gx_462 mi), (List.forall_mem_cons.mpr ⟨hts _ (gx_463 mi), (List.forall_mem_cons.mpr ⟨va_Nw.use rfl hW.2.1, (fun _ h => absurd h List.not_mem_nil)⟩)⟩)⟩)⟩)⟩), (List.forall_mem_cons.mpr ⟨hts _ (gx_463 mi), (List.forall_mem_cons.mpr ⟨hts _ (gx_464 mi), (List.forall_mem_cons.mpr ⟨hts _ (gx_465 mi), (List.forall_mem_cons.mpr ⟨hts _ (gx_466 mi), (List.forall_mem_cons.mpr ⟨va_Nw.use rfl hW.2.2.1, (fun _ h => absurd h List.not_mem_nil)⟩)⟩)⟩)⟩)⟩)⟩⟩)⟩, (List.forall_mem_cons.mpr ⟨hts _ (gx_456 mi), (List.forall_mem_cons.mpr ⟨hts _ (gx_415 mi), (List.forall_mem_cons.mpr ⟨va_Nw.use rfl hW.2.2.2.1, (List.forall_mem_cons.mpr ⟨hts _ (gx_423 mi), (List.forall_mem_cons.mpr ⟨hts _ (gx_424 mi), (List.forall_mem_cons.mpr ⟨hts _ (gx_425 mi), (List.forall_mem_cons.mpr ⟨hts _ (gx_427 mi), (List.forall_mem_cons.mpr ⟨hts _ (gx_429 mi), (List.forall_mem_cons.mpr ⟨hts _ (gx_431 mi), (List.forall_mem_cons.mpr ⟨hY.1.ref, (List.forall_mem_cons.mpr ⟨hY.2.ref, (List.forall_mem_cons.mpr ⟨hts _ (gx_435 mi), (List.forall_mem_cons.mpr ⟨hts _ (gx_434 mi), (List.forall_mem_cons.mpr ⟨hts _ (gx_433 mi), (fun _ h => absurd h List.not_mem_nil)⟩)⟩)⟩)⟩)⟩)⟩)⟩)⟩)⟩)⟩)⟩)⟩)⟩)⟩)⟩
set_option maxRecDepth 100000 in
theorem pg_at_51 (mi : Nat) (A : Nat → Prop) (args : Array Value) (s : State) (hts : ∀ w ∈ mq_ws pg_Z mi, w.before args s = true) (hW : pg_W s) (hY : mq_Y A s s.heap) : ∀ a ∈ Bundle.ownAtoms "PartitionKernel" 54 "java/lang/IllegalArgumentException" ["java/lang/RuntimeException", "java/lang/Exception"], a.before args s = true :=
  List.forall_mem_append.mpr ⟨List.forall_mem_append.mpr ⟨List.forall_mem_append.mpr ⟨(List.forall_mem_cons.mpr ⟨hts _ (gx_53 mi), (List.forall_mem_cons.mpr ⟨hts _ (gx_436 mi), (List.forall_mem_cons.mpr ⟨hts _ (gx_445 mi), (List.forall_mem_cons.mpr ⟨hts _ (gx_449 mi), (List.forall_mem_cons.mpr ⟨hts _ (gx_452 mi), (List.forall_mem_cons.mpr ⟨hts _ (gx_454 mi), (List.forall_mem_cons.mpr ⟨hts _ (gx_437 mi), (List.forall_mem_cons.mpr ⟨hts _ (gx_438 mi), (List.forall_mem_cons.mpr ⟨hts _ (gx_67 mi), (List.forall_mem_cons.mpr ⟨hts _ (gx_68 mi), (List.forall_mem_cons.mpr ⟨hts _ (gx_439 mi), (List.forall_mem_cons.mpr ⟨hts _ (gx_444 mi), (List.forall_mem_cons.mpr ⟨hts _ (gx_450 mi), (List.forall_mem_cons.mpr ⟨hts _ (gx_470 mi), (List.forall_mem_cons.mpr ⟨hts _ (gx_426 mi), (List.forall_mem_cons.mpr ⟨hts _ (gx_471 mi), (List.forall_mem_cons.mpr ⟨hts _ (gx_428 mi), (List.forall_mem_cons.mpr ⟨hts _ (gx_472 mi), (List.forall_mem_cons.mpr ⟨hts _ (gx_430 mi), (List.forall_mem_cons.mpr ⟨hts _ (gx_440 mi), (List.forall_mem_cons.mpr ⟨hY.1.lays, (List.forall_mem_cons.mpr ⟨hts _ (gx_442 mi), (List.forall_mem_cons.mpr ⟨hY.2.lays, (List.forall_mem_cons.mpr ⟨hts _ (gx_432 mi), (fun _ h => absurd h List.not_mem_nil)⟩)⟩)⟩)⟩)⟩)⟩)⟩)⟩)⟩)⟩)⟩)⟩)⟩)⟩)⟩)⟩)⟩)⟩)⟩)⟩)⟩)⟩)⟩)⟩), (List.forall_mem_cons.mpr ⟨hts _ (gx_466 mi), (List.forall_mem_cons.mpr ⟨hts _ (gx_467 mi), (List.forall_mem_cons.mpr ⟨hts _ (gx_469 mi), (List.forall_mem_cons.mpr ⟨hts _ (gx_432 mi), (fun _ h => absurd h List.not_mem_nil)⟩)⟩)⟩)⟩)⟩, (List.forall_mem_append.mpr ⟨(List.forall_mem_cons.mpr ⟨hts _ (gx_493 mi), (List.forall_mem_cons.mpr ⟨hts _ (gx_494 mi), (List.forall_mem_cons.mpr ⟨hts _ (gx_495 mi), (List.forall_mem_cons.mpr ⟨hts _ (gx_460 mi), (List.forall_mem_cons.mpr ⟨va_Nw.use rfl hW.1, (fun _ h => absurd h List.not_mem_nil)⟩)⟩)⟩)⟩)⟩), List.forall_mem_append.mpr ⟨(List.forall_mem_cons.mpr ⟨hts _ (gx_460 mi), (List.forall_mem_cons.mpr ⟨hts _ (gx_461 mi), (List.forall_mem_cons.mpr ⟨hts _ (gx_462 mi), (List.forall_mem_cons.mpr ⟨hts _ (gx_463 mi), (List.forall_mem_cons.mpr ⟨va_Nw.use rfl hW.2.1, (fun _ h => absurd h List.not_mem_nil)⟩)⟩)⟩)⟩)⟩), (List.forall_mem_cons.mpr ⟨hts _ (gx_463 mi), (List.forall_mem_cons.mpr ⟨hts _ (gx_464 mi), (List.forall_mem_cons.mpr ⟨hts _ (gx_465 mi), (List.forall_mem_cons.mpr ⟨hts _ (gx_466 mi), (List.forall_mem_cons.mpr ⟨va_Nw.use rfl hW.2.2.1, (fun _ h => absurd h List.not_mem_nil)⟩)⟩)⟩)⟩)⟩)⟩⟩)⟩, (List.forall_mem_cons.mpr ⟨hts _ (gx_492 mi), (List.forall_mem_cons.mpr ⟨hts _ (gx_483 mi), (List.forall_mem_cons.mpr ⟨va_Nw.use rfl hW.2.2.2.2.1, (List.forall_mem_cons.mpr ⟨hts _ (gx_485 mi), (List.forall_mem_cons.mpr ⟨hts _ (gx_447 mi), (List.forall_mem_cons.mpr ⟨hts _ (gx_486 mi), (List.forall_mem_cons.mpr ⟨hts _ (gx_487 mi), (List.forall_mem_cons.mpr ⟨hts _ (gx_488 mi), (List.forall_mem_cons.mpr ⟨hts _ (gx_489 mi), (List.forall_mem_cons.mpr ⟨hY.1.ref, (List.forall_mem_cons.mpr ⟨hY.2.ref, (List.forall_mem_cons.mpr ⟨hts _ (gx_435 mi), (List.forall_mem_cons.mpr ⟨hts _ (gx_434 mi), (List.forall_mem_cons.mpr ⟨hts _ (gx_490 mi), (fun _ h => absurd h List.not_mem_nil)⟩)⟩)⟩)⟩)⟩)⟩)⟩)⟩)⟩)⟩)⟩)⟩)⟩)⟩)⟩
set_option maxRecDepth 100000 in
theorem pg_at_52 (mi : Nat) (A : Nat → Prop) (args : Array Value) (s : State) (hts : ∀ w ∈ mq_ws pg_Z mi, w.before args s = true) (hW : pg_W s) (hY : mq_Y A s s.heap) : ∀ a ∈ Bundle.ownAtoms "PartitionKernel" 67 "java/lang/IllegalStateException" ["java/lang/RuntimeException", "java/lang/Exception"], a.before args s = true :=
  List.forall_mem_append.mpr ⟨List.forall_mem_append.mpr ⟨List.forall_mem_append.mpr ⟨(List.forall_mem_cons.mpr ⟨hts _ (gx_53 mi), (List.forall_mem_cons.mpr ⟨hts _ (gx_436 mi), (List.forall_mem_cons.mpr ⟨hts _ (gx_445 mi), (List.forall_mem_cons.mpr ⟨hts _ (gx_449 mi), (List.forall_mem_cons.mpr ⟨hts _ (gx_452 mi), (List.forall_mem_cons.mpr ⟨hts _ (gx_454 mi), (List.forall_mem_cons.mpr ⟨hts _ (gx_437 mi), (List.forall_mem_cons.mpr ⟨hts _ (gx_438 mi), (List.forall_mem_cons.mpr ⟨hts _ (gx_67 mi), (List.forall_mem_cons.mpr ⟨hts _ (gx_68 mi), (List.forall_mem_cons.mpr ⟨hts _ (gx_439 mi), (List.forall_mem_cons.mpr ⟨hts _ (gx_444 mi), (List.forall_mem_cons.mpr ⟨hts _ (gx_450 mi), (List.forall_mem_cons.mpr ⟨hts _ (gx_470 mi), (List.forall_mem_cons.mpr ⟨hts _ (gx_426 mi), (List.forall_mem_cons.mpr ⟨hts _ (gx_471 mi), (List.forall_mem_cons.mpr ⟨hts _ (gx_428 mi), (List.forall_mem_cons.mpr ⟨hts _ (gx_472 mi), (List.forall_mem_cons.mpr ⟨hts _ (gx_430 mi), (List.forall_mem_cons.mpr ⟨hts _ (gx_440 mi), (List.forall_mem_cons.mpr ⟨hY.1.lays, (List.forall_mem_cons.mpr ⟨hts _ (gx_442 mi), (List.forall_mem_cons.mpr ⟨hY.2.lays, (List.forall_mem_cons.mpr ⟨hts _ (gx_432 mi), (fun _ h => absurd h List.not_mem_nil)⟩)⟩)⟩)⟩)⟩)⟩)⟩)⟩)⟩)⟩)⟩)⟩)⟩)⟩)⟩)⟩)⟩)⟩)⟩)⟩)⟩)⟩)⟩)⟩), (List.forall_mem_cons.mpr ⟨hts _ (gx_466 mi), (List.forall_mem_cons.mpr ⟨hts _ (gx_467 mi), (List.forall_mem_cons.mpr ⟨hts _ (gx_469 mi), (List.forall_mem_cons.mpr ⟨hts _ (gx_432 mi), (fun _ h => absurd h List.not_mem_nil)⟩)⟩)⟩)⟩)⟩, (List.forall_mem_append.mpr ⟨(List.forall_mem_cons.mpr ⟨hts _ (gx_513 mi), (List.forall_mem_cons.mpr ⟨hts _ (gx_514 mi), (List.forall_mem_cons.mpr ⟨hts _ (gx_515 mi), (List.forall_mem_cons.mpr ⟨hts _ (gx_460 mi), (List.forall_mem_cons.mpr ⟨va_Nw.use rfl hW.1, (fun _ h => absurd h List.not_mem_nil)⟩)⟩)⟩)⟩)⟩), List.forall_mem_append.mpr ⟨(List.forall_mem_cons.mpr ⟨hts _ (gx_460 mi), (List.forall_mem_cons.mpr ⟨hts _ (gx_461 mi), (List.forall_mem_cons.mpr ⟨hts _ (gx_462 mi), (List.forall_mem_cons.mpr ⟨hts _ (gx_463 mi), (List.forall_mem_cons.mpr ⟨va_Nw.use rfl hW.2.1, (fun _ h => absurd h List.not_mem_nil)⟩)⟩)⟩)⟩)⟩), (List.forall_mem_cons.mpr ⟨hts _ (gx_463 mi), (List.forall_mem_cons.mpr ⟨hts _ (gx_464 mi), (List.forall_mem_cons.mpr ⟨hts _ (gx_465 mi), (List.forall_mem_cons.mpr ⟨hts _ (gx_466 mi), (List.forall_mem_cons.mpr ⟨va_Nw.use rfl hW.2.2.1, (fun _ h => absurd h List.not_mem_nil)⟩)⟩)⟩)⟩)⟩)⟩⟩)⟩, (List.forall_mem_cons.mpr ⟨hts _ (gx_512 mi), (List.forall_mem_cons.mpr ⟨hts _ (gx_503 mi), (List.forall_mem_cons.mpr ⟨va_Nw.use rfl hW.2.2.2.2.2.1, (List.forall_mem_cons.mpr ⟨hts _ (gx_505 mi), (List.forall_mem_cons.mpr ⟨hts _ (gx_448 mi), (List.forall_mem_cons.mpr ⟨hts _ (gx_506 mi), (List.forall_mem_cons.mpr ⟨hts _ (gx_507 mi), (List.forall_mem_cons.mpr ⟨hts _ (gx_508 mi), (List.forall_mem_cons.mpr ⟨hts _ (gx_509 mi), (List.forall_mem_cons.mpr ⟨hY.1.ref, (List.forall_mem_cons.mpr ⟨hY.2.ref, (List.forall_mem_cons.mpr ⟨hts _ (gx_435 mi), (List.forall_mem_cons.mpr ⟨hts _ (gx_434 mi), (List.forall_mem_cons.mpr ⟨hts _ (gx_510 mi), (fun _ h => absurd h List.not_mem_nil)⟩)⟩)⟩)⟩)⟩)⟩)⟩)⟩)⟩)⟩)⟩)⟩)⟩)⟩)⟩
def pg_ex (k : Nat) : String := match k with
  | 50 => "java/lang/IndexOutOfBoundsException"
  | 51 => "java/lang/IllegalArgumentException"
  | 52 => "java/lang/IllegalStateException"
  | _ => ""
set_option maxRecDepth 100000 in
set_option maxHeartbeats 4000000 in
theorem ot_71 : ∀ en ∈ cd_71, mq_okt (pg_Z.2.1 71) (pg_Z.1 71).cls (mq_ws pg_Z 71) pg_ki pg_ex ["java/lang/RuntimeException", "java/lang/Exception"] pg_W en := mq_all_mem ⟨(fun _ h => by cases h),
  (fun _ h => by cases h),
  (fun _ h => by cases h),
  (fun ix h _ => by cases h; exact ⟨by decide +kernel, gx_414 71, gx_415 71, gx_56 71, 45, 47, "no such partition", fun s h => h.2.2.2.2.2.2.1, ⟨by decide +kernel, by decide +kernel, by decide +kernel, by decide +kernel, by decide +kernel⟩, fun A args s => pg_at_50 71 A args s⟩),
  (fun _ h => by cases h),
  (fun _ h => by cases h),
  (fun _ h => by cases h),
  (fun _ h => by cases h),
  (fun _ h => by cases h),
  (fun _ h => by cases h),
  (fun ix h _ => by cases h; exact ⟨by decide +kernel, gx_482 71, gx_483 71, gx_57 71, 52, 54, "ticks are not 1 .. 100", fun s h => h.2.2.2.2.2.2.2.1, ⟨by decide +kernel, by decide +kernel, by decide +kernel, by decide +kernel, by decide +kernel⟩, fun A args s => pg_at_51 71 A args s⟩),
  (fun _ h => by cases h),
  (fun _ h => by cases h),
  (fun _ h => by cases h),
  (fun _ h => by cases h),
  (fun _ h => by cases h),
  (fun _ h => by cases h),
  (fun _ h => by cases h),
  (fun _ h => by cases h),
  (fun _ h => by cases h),
  (fun ix h _ => by cases h; exact ⟨by decide +kernel, gx_502 71, gx_503 71, gx_58 71, 65, 67, "it has begun, or there are 8 windows", fun s h => h.2.2.2.2.2.2.2.2.1, ⟨by decide +kernel, by decide +kernel, by decide +kernel, by decide +kernel, by decide +kernel⟩, fun A args s => pg_at_52 71 A args s⟩),
  (fun _ h => by cases h), trivial⟩
set_option maxRecDepth 100000 in
set_option maxHeartbeats 4000000 in
theorem ot_72 : ∀ en ∈ cd_72, mq_okt (pg_Z.2.1 72) (pg_Z.1 72).cls (mq_ws pg_Z 72) pg_ki pg_ex ["java/lang/RuntimeException", "java/lang/Exception"] pg_W en := mq_all_mem ⟨(fun _ h => by cases h),
  (fun _ h => by cases h),
  (fun _ h => by cases h),
  (fun _ h => by cases h),
  (fun _ h => by cases h),
  (fun _ h => by cases h),
  (fun ix h _ => by cases h; exact ⟨by decide +kernel, gx_414 72, gx_415 72, gx_56 72, 45, 47, "no such partition", fun s h => h.2.2.2.2.2.2.1, ⟨by decide +kernel, by decide +kernel, by decide +kernel, by decide +kernel, by decide +kernel⟩, fun A args s => pg_at_50 72 A args s⟩),
  (fun _ h => by cases h),
  (fun _ h => by cases h),
  (fun _ h => by cases h),
  (fun _ h => by cases h),
  (fun _ h => by cases h),
  (fun _ h => by cases h),
  (fun _ h => by cases h),
  (fun _ h => by cases h),
  (fun _ h => by cases h),
  (fun ix h _ => by cases h; exact ⟨by decide +kernel, gx_482 72, gx_483 72, gx_57 72, 78, 54, "no such priority, period or deadline", fun s h => h.2.2.2.2.2.2.2.2.2.1, ⟨by decide +kernel, by decide +kernel, by decide +kernel, by decide +kernel, by decide +kernel⟩, fun A args s => pg_at_51 72 A args s⟩),
  (fun _ h => by cases h),
  (fun _ h => by cases h),
  (fun _ h => by cases h),
  (fun _ h => by cases h),
  (fun _ h => by cases h),
  (fun _ h => by cases h),
  (fun _ h => by cases h),
  (fun _ h => by cases h),
  (fun _ h => by cases h),
  (fun _ h => by cases h),
  (fun _ h => by cases h),
  (fun _ h => by cases h),
  (fun _ h => by cases h),
  (fun _ h => by cases h),
  (fun _ h => by cases h),
  (fun ix h _ => by cases h; exact ⟨by decide +kernel, gx_502 72, gx_503 72, gx_58 72, 83, 67, "it has begun, or there are 8 processes", fun s h => h.2.2.2.2.2.2.2.2.2.2.1, ⟨by decide +kernel, by decide +kernel, by decide +kernel, by decide +kernel, by decide +kernel⟩, fun A args s => pg_at_52 72 A args s⟩),
  (fun _ h => by cases h),
  (fun _ h => by cases h), trivial⟩
set_option maxRecDepth 100000 in
set_option maxHeartbeats 4000000 in
theorem ot_73 : ∀ en ∈ cd_73, mq_okt (pg_Z.2.1 73) (pg_Z.1 73).cls (mq_ws pg_Z 73) pg_ki pg_ex ["java/lang/RuntimeException", "java/lang/Exception"] pg_W en := mq_all_mem ⟨(fun _ h => by cases h),
  (fun _ h => by cases h),
  (fun _ h => by cases h),
  (fun _ h => by cases h),
  (fun _ h => by cases h),
  (fun _ h => by cases h),
  (fun ix h _ => by cases h; exact ⟨by decide +kernel, gx_414 73, gx_415 73, gx_56 73, 85, 47, "no such partitions", fun s h => h.2.2.2.2.2.2.2.2.2.2.2.1, ⟨by decide +kernel, by decide +kernel, by decide +kernel, by decide +kernel, by decide +kernel⟩, fun A args s => pg_at_50 73 A args s⟩),
  (fun _ h => by cases h),
  (fun _ h => by cases h),
  (fun _ h => by cases h),
  (fun _ h => by cases h),
  (fun _ h => by cases h),
  (fun _ h => by cases h),
  (fun _ h => by cases h),
  (fun _ h => by cases h),
  (fun _ h => by cases h),
  (fun _ h => by cases h),
  (fun _ h => by cases h),
  (fun _ h => by cases h),
  (fun ix h _ => by cases h; exact ⟨by decide +kernel, gx_482 73, gx_483 73, gx_57 73, 87, 54, "no such limit", fun s h => h.2.2.2.2.2.2.2.2.2.2.2.2.1, ⟨by decide +kernel, by decide +kernel, by decide +kernel, by decide +kernel, by decide +kernel⟩, fun A args s => pg_at_51 73 A args s⟩),
  (fun _ h => by cases h),
  (fun _ h => by cases h),
  (fun _ h => by cases h),
  (fun _ h => by cases h),
  (fun _ h => by cases h),
  (fun _ h => by cases h),
  (fun _ h => by cases h),
  (fun ix h _ => by cases h; exact ⟨by decide +kernel, gx_502 73, gx_503 73, gx_58 73, 93, 67, "it has begun, or there are 8 channels", fun s h => h.2.2.2.2.2.2.2.2.2.2.2.2.2.1, ⟨by decide +kernel, by decide +kernel, by decide +kernel, by decide +kernel, by decide +kernel⟩, fun A args s => pg_at_52 73 A args s⟩),
  (fun _ h => by cases h),
  (fun _ h => by cases h),
  (fun _ h => by cases h),
  (fun _ h => by cases h),
  (fun _ h => by cases h),
  (fun _ h => by cases h),
  (fun _ h => by cases h),
  (fun _ h => by cases h),
  (fun _ h => by cases h),
  (fun _ h => by cases h),
  (fun _ h => by cases h),
  (fun _ h => by cases h),
  (fun _ h => by cases h),
  (fun _ h => by cases h),
  (fun _ h => by cases h),
  (fun _ h => by cases h),
  (fun _ h => by cases h),
  (fun _ h => by cases h),
  (fun _ h => by cases h),
  (fun _ h => by cases h),
  (fun _ h => by cases h), trivial⟩
set_option maxRecDepth 100000 in
set_option maxHeartbeats 4000000 in
theorem ot_74 : ∀ en ∈ cd_74, mq_okt (pg_Z.2.1 74) (pg_Z.1 74).cls (mq_ws pg_Z 74) pg_ki pg_ex ["java/lang/RuntimeException", "java/lang/Exception"] pg_W en := mq_all_mem ⟨(fun _ h => by cases h),
  (fun _ h => by cases h),
  (fun _ h => by cases h),
  (fun _ h => by cases h),
  (fun _ h => by cases h),
  (fun _ h => by cases h),
  (fun _ h => by cases h),
  (fun _ h => by cases h),
  (fun _ h => by cases h),
  (fun _ h => by cases h),
  (fun _ h => by cases h),
  (fun ix h _ => by cases h; exact ⟨by decide +kernel, gx_414 74, gx_415 74, gx_56 74, 99, 47, "no such partition or error", fun s h => h.2.2.2.2.2.2.2.2.2.2.2.2.2.2.1, ⟨by decide +kernel, by decide +kernel, by decide +kernel, by decide +kernel, by decide +kernel⟩, fun A args s => pg_at_50 74 A args s⟩),
  (fun _ h => by cases h),
  (fun _ h => by cases h),
  (fun _ h => by cases h),
  (fun _ h => by cases h),
  (fun _ h => by cases h),
  (fun ix h _ => by cases h; exact ⟨by decide +kernel, gx_482 74, gx_483 74, gx_57 74, 101, 54, "no such action", fun s h => h.2.2.2.2.2.2.2.2.2.2.2.2.2.2.2.1, ⟨by decide +kernel, by decide +kernel, by decide +kernel, by decide +kernel, by decide +kernel⟩, fun A args s => pg_at_51 74 A args s⟩),
  (fun _ h => by cases h),
  (fun _ h => by cases h),
  (fun _ h => by cases h),
  (fun _ h => by cases h),
  (fun _ h => by cases h),
  (fun _ h => by cases h), trivial⟩
set_option maxRecDepth 100000 in
set_option maxHeartbeats 4000000 in
theorem ot_75 : ∀ en ∈ cd_75, mq_okt (pg_Z.2.1 75) (pg_Z.1 75).cls (mq_ws pg_Z 75) pg_ki pg_ex ["java/lang/RuntimeException", "java/lang/Exception"] pg_W en := mq_all_mem ⟨(fun _ h => by cases h),
  (fun _ h => by cases h),
  (fun _ h => by cases h),
  (fun _ h => by cases h),
  (fun _ h => by cases h),
  (fun _ h => by cases h),
  (fun _ h => by cases h),
  (fun _ h => by cases h),
  (fun _ h => by cases h),
  (fun _ h => by cases h),
  (fun ix h _ => by cases h; exact ⟨by decide +kernel, gx_414 75, gx_415 75, gx_56 75, 112, 47, "no such partition or place", fun s h => h.2.2.2.2.2.2.2.2.2.2.2.2.2.2.2.2.1, ⟨by decide +kernel, by decide +kernel, by decide +kernel, by decide +kernel, by decide +kernel⟩, fun A args s => pg_at_50 75 A args s⟩),
  (fun _ h => by cases h),
  (fun _ h => by cases h),
  (fun _ h => by cases h),
  (fun _ h => by cases h),
  (fun _ h => by cases h),
  (fun _ h => by cases h), trivial⟩
set_option maxRecDepth 100000 in
set_option maxHeartbeats 4000000 in
theorem ot_76 : ∀ en ∈ cd_76, mq_okt (pg_Z.2.1 76) (pg_Z.1 76).cls (mq_ws pg_Z 76) pg_ki pg_ex ["java/lang/RuntimeException", "java/lang/Exception"] pg_W en := mq_all_mem ⟨(fun _ h => by cases h),
  (fun _ h => by cases h),
  (fun _ h => by cases h),
  (fun _ h => by cases h),
  (fun _ h => by cases h),
  (fun _ h => by cases h),
  (fun _ h => by cases h),
  (fun ix h _ => by cases h; exact ⟨by decide +kernel, gx_502 76, gx_503 76, gx_58 76, 125, 67, "it has begun, or there is no window", fun s h => h.2.2.2.2.2.2.2.2.2.2.2.2.2.2.2.2.2.1, ⟨by decide +kernel, by decide +kernel, by decide +kernel, by decide +kernel, by decide +kernel⟩, fun A args s => pg_at_52 76 A args s⟩),
  (fun _ h => by cases h),
  (fun _ h => by cases h),
  (fun _ h => by cases h),
  (fun _ h => by cases h),
  (fun _ h => by cases h),
  (fun _ h => by cases h),
  (fun _ h => by cases h),
  (fun _ h => by cases h),
  (fun _ h => by cases h),
  (fun _ h => by cases h),
  (fun _ h => by cases h),
  (fun _ h => by cases h),
  (fun _ h => by cases h),
  (fun _ h => by cases h),
  (fun _ h => by cases h),
  (fun _ h => by cases h),
  (fun _ h => by cases h),
  (fun _ h => by cases h), trivial⟩
set_option maxRecDepth 100000 in
set_option maxHeartbeats 4000000 in
theorem ot_77 : ∀ en ∈ cd_77, mq_okt (pg_Z.2.1 77) (pg_Z.1 77).cls (mq_ws pg_Z 77) pg_ki pg_ex ["java/lang/RuntimeException", "java/lang/Exception"] pg_W en := mq_all_mem ⟨(fun _ h => by cases h),
  (fun _ h => by cases h),
  (fun _ h => by cases h),
  (fun ix h _ => by cases h; exact ⟨by decide +kernel, gx_502 77, gx_503 77, gx_58 77, 133, 67, "it has not begun", fun s h => h.2.2.2.2.2.2.2.2.2.2.2.2.2.2.2.2.2.2.1, ⟨by decide +kernel, by decide +kernel, by decide +kernel, by decide +kernel, by decide +kernel⟩, fun A args s => pg_at_52 77 A args s⟩),
  (fun _ h => by cases h),
  (fun _ h => by cases h),
  (fun _ h => by cases h),
  (fun _ h => by cases h),
  (fun _ h => by cases h),
  (fun ix h _ => by cases h; exact ⟨by decide +kernel, gx_482 77, gx_483 77, gx_57 77, 135, 54, "n is not 0 .. 500", fun s h => h.2.2.2.2.2.2.2.2.2.2.2.2.2.2.2.2.2.2.2, ⟨by decide +kernel, by decide +kernel, by decide +kernel, by decide +kernel, by decide +kernel⟩, fun A args s => pg_at_51 77 A args s⟩),
  (fun _ h => by cases h),
  (fun _ h => by cases h),
  (fun _ h => by cases h),
  (fun _ h => by cases h),
  (fun _ h => by cases h),
  (fun _ h => by cases h),
  (fun _ h => by cases h),
  (fun _ h => by cases h),
  (fun _ h => by cases h),
  (fun _ h => by cases h),
  (fun _ h => by cases h),
  (fun _ h => by cases h),
  (fun _ h => by cases h),
  (fun _ h => by cases h),
  (fun _ h => by cases h),
  (fun _ h => by cases h),
  (fun _ h => by cases h),
  (fun _ h => by cases h),
  (fun _ h => by cases h),
  (fun _ h => by cases h),
  (fun _ h => by cases h),
  (fun _ h => by cases h),
  (fun _ h => by cases h),
  (fun _ h => by cases h),
  (fun _ h => by cases h),
  (fun _ h => by cases h),
  (fun _ h => by cases h),
  (fun _ h => by cases h),
  (fun _ h => by cases h),
  (fun _ h => by cases h),
  (fun _ h => by cases h),
  (fun _ h => by cases h),
  (fun _ h => by cases h),
  (fun _ h => by cases h),
  (fun _ h => by cases h),
  (fun _ h => by cases h),
  (fun _ h => by cases h),
  (fun _ h => by cases h), trivial⟩
end
section
/-! The throwing roads of the class's seven methods that throw: by their number. -/
theorem pg_k8 (k : Nat) (h : (pg_ki k).1 = 8) : (pg_ki k).2.1 = k ∧ (pg_ki k).2.2 = 6 := by
  unfold pg_ki at h ⊢
  split at h <;> first | (exact ⟨rfl, rfl⟩) | cases h
theorem mq_As {D : va_G} {cl : List vw_C} {ws : va_W} {H : Heap} (hP : va_P D cl ws H) (q : Nat) (cell : Cell) (hA : va_A ws H.size q) (hc : H[q]? = some cell) : cell.vm.isStatics = false := by
  rcases hA with ⟨k, e, hk⟩ | hA
  · have h := hP k _ hk
    rcases e with x | o
    · have h : H[q]? = some (vp_cell _ _) := h
      rw [hc] at h
      cases h
      obtain ⟨n, f | f | f | f | f⟩ := x.2 <;> rfl
    · obtain ⟨r, -, cell', h1, -, h2, -⟩ := h
      have h1 : H[q]? = some cell' := h1
      rw [hc] at h1
      cases h1
      rw [h2]; rfl
  · have := (Array.getElem?_eq_some_iff.mp hc).1
    omega
abbrev pg_nm : List String := ["java/lang/RuntimeException", "java/lang/Exception"]
/-- a throwing method's start: also the throws' words, and Throwable's statics -/
def pg_PT (cA : Nat → ClassId) (D : va_G) (sz : Nat) (ad : Nat × Nat → Nat) (refs : List (Nat × Nat)) (as : List mLV) (M : mMm) : Array Value → State → Prop := fun v U =>
  mq_Pc pg_X (pg_E cA) D pg_cl (pg_tys cA) sz ad refs as M v U ∧ pg_W U ∧ mq_Y (va_A (mq_W (pg_E cA) ad refs M) sz) U U.heap
set_option maxHeartbeats 4000000 in
theorem pg_soundT {l : Launch} {D : va_G} {F : Nat} (cA : Nat → ClassId) (hfl : l.flags = flags0) (d mi : Nat) (hd5 : 5 ≤ d) (hot : ∀ en ∈ pg_c mi, mq_okt (pg_Z.2.1 mi) (pg_Z.1 mi).cls (mq_ws pg_Z mi) pg_ki pg_ex pg_nm pg_W en) (as : List mLV) (M : mMm) (x : Nat) (M1 : mMm) (h : pX F (d + 1) mi as M = some (.inr x, M1))
    (ad : Nat × Nat → Nat) (refs : List (Nat × Nat)) (sz : Nat) (hV : mq_V (pg_E cA) M refs) (hva : ∀ r, (.inr (some r) : mLV) ∈ as → mq_vr refs r) :
    mq_MT l (pg_Z.1 mi) (mq_ws pg_Z mi) (mq_rm pg_mx (d + 1) mi) (pg_PT cA D sz ad refs as M) (mq_QT (pg_E cA) D pg_cl (pg_tys cA) (va_A (mq_W (pg_E cA) ad refs M) sz) ad refs (pg_ex x) M1) (pg_mx mi).1 (pg_mx mi).2.1 (va_A (mq_W (pg_E cA) ad refs M) sz) := by
  have h : (if as.length ≤ pg_Z.2.2.1 mi then mq_loop (pg_E cA).1 pg_sw (fun _ _ => none) pg_mx (mq_ex pg_ki pg_sw (fun _ _ => none) pg_mx pg_Z.2.2.1 pg_c F d) (pg_c mi) (pg_mx mi) none F 0 (mq_en 0 as) [] M 0 0 else none) = some (.inr x, M1) := h
  split at h
  · rename_i hlen
    have hne : pg_c mi ≠ [] := by
      intro h0
      rw [h0] at h
      cases F with
      | zero => cases h
      | succ f => cases h
    obtain ⟨hpl, hno8, hrows⟩ := pg_oka cA mi hne
    refine mq_MT_ofW (cc := pg_Z.2.1 mi) (maxL := pg_Z.2.2.1 mi) (ret := pg_Z.2.2.2.1 mi) hpl rfl ?_
    intro p e s m args below meth c s₁ B hml hv
    obtain ⟨⟨rfl, hsz, hP, hK, hD0, hX⟩, hW, hY⟩ := hv
    have hts := atoms_spec (ws := mq_ws pg_Z mi) B.pre
    have hown : s.vm.findClass (pg_Z.1 mi).cls = some m.cls := findClass_of_methodNamed B.named
    have hlocks := B.notSynchronized
    have hname : meth.name = (pg_Z.1 mi).name := (name_of_methodNamed B.named B.method).1
    have hemp : c.exceptionTable.isEmpty = true := B.noHandlers (hts _ List.mem_cons_self)
    have htr : e.platform.stackTraces = false := Launch.traces_off hfl B.admits
    subst hsz
    have hD := hD0.self (sz := s.heap.size)
    have C : mq_C p s m (as.map (mq_cl ad)).toArray c (pg_Z.2.1 mi) (pg_Z.2.2.1 mi) (pg_Z.1 mi).cls (mq_ws pg_Z mi) D pg_cl (pg_tys cA) (va_A (mq_W (pg_E cA) ad refs M) s.heap.size) pg_X := ⟨B.exec, B.bytes, hml, hown, hts, hK, fun q h => Or.inr h, hX, pX_warm⟩
    have hl := lv_entry (as.map (mq_cl ad)) (n := pg_Z.2.2.1 mi) (by rw [mq_sl_len]; exact hlen)
    rw [lg_entry_eq]
    generalize (lg_sl (as.map (mq_cl ad)) ++ List.replicate (pg_Z.2.2.1 mi - (lg_sl (as.map (mq_cl ad))).length) Slot.unset).toArray = ls at hl ⊢
    rw [mq_lv_args] at hl
    exact mq_main (res := (.inr x, M1)) (rt := pg_Z.2.2.2.1 mi) (lim := pg_mx mi) (d := d) (tI := 0) (tL := 1) (tB := 2) (tZ := 3) C rfl (fun hi => by rw [hname]; exact of_decide_eq_true hi) rfl rfl rfl rfl (pg_htQ cA) pg_htO hrows (fun a as M rv M' h => pg_sound cA d a as M rv M' h) ⟨Nat.le_refl _, Nat.le_refl _, Nat.le_refl _, Nat.le_refl _⟩ (fun w h => by cases h)
      (fun pc ix nx a b sc v _ lv st M cs ss q as r x M' hp _ _ _ _ _ _ _ hh => by cases hh)
      (fun pc ix nx a b v hm lv st M cs ss as r w M' _ _ _ _ _ _ => by have h8 := List.all_eq_true.mp hno8 _ hm; cases h8)
      (fun pc lv x' M2 cs ss hd hb he hcs hss => by cases he)
      (fun pc lv w M2 cs ss hd hb he hcs hss => by cases he)
      (fun pc lv M2 cs ss hd hb he hcs hss => by cases he)
      (fun en hen ix hix h8 lv M2 cs ss he hc1 hc2 => by
        obtain ⟨e1, e2⟩ := pg_k8 _ h8
        have he' := Prod.mk.inj he
        have hx : x = en.2.2.2.1 := (Sum.inr.inj he'.1).trans e1
        have hM := he'.2
        subst hM
        subst hx
        have hc2 : ss + (pg_ki en.2.2.2.1).2.2 ≤ (pg_mx mi).2.1 := hc2
        rw [e2] at hc2
        obtain ⟨o1, o2, o3, o4, is, ic, tx, o5, ⟨d0, d3, d4, d6, d9⟩, o6⟩ := hot en hen ix hix h8
        obtain ⟨a0, ha0⟩ := o5 s hW
        exact mq_g_throw C htr hlocks hemp (mq_As hP) (names := pg_nm) o1 (by decide +kernel) (o6 _ _ s hts hW hY) o2 o3 o4 ha0 d0 d3 d4 d6 d9 ⟨by show 2 + 3 < d + 1; omega, by show 13 * (2 + 1) + 43 ≤ 37 * (d + 1); omega⟩ ⟨hc1, hc2⟩ ⟨hc1, hc2⟩)
      F 0 (mq_en 0 as) [] M 0 0 (Nat.zero_le _) (Nat.zero_le _) h s.heap [] ls ad refs ⟨hP, hD, va_S.rf, hV, fun _ h => h, fun _ _ => rfl⟩ hl (fun i r h => hva r (mq_en_mem h)) (fun r h => by cases h)
  · cases h
end
section
/-! A throw that is caught in the caller, where the handlers' classes may be resolved for the first time. -/
def mq_FT (e : Env) (s : State) (f : JFrame) (a : Addr) (h : Handler) (vm' : Vm) : Prop :=
  ∀ (Q : Handler → Pre) (E : CtlPost) (d : Bool) (acts : List Action), Sem.wp (findHandler f a) Q E e d acts s ↔ Q h d acts (s.setVm vm')
section MQF
variable {Q : Handler → Pre} {E : CtlPost} {e : Env} {d : Bool} {acts : List Action} {s : State} {f : JFrame} {a : Addr}
theorem mq_go_link {x : ExceptionTableEntry} {t : List ExceptionTableEntry} {c : ClassId} {cell : Cell} (hx : covers x f.pc = true) (h0 : x.catchType ≠ 0)
    (hl : s.vm.ClassLinks e.platform f.method.cls x.catchType c) (hcell : s.heap[a]? = some cell) (hobj : ∀ k, cell.vm ≠ .statics k)
    (hk : ∃ k, s.vm.classes[cell.cls]? = some k) (hc : ∃ k, s.vm.classes[c]? = some k) (hfit : s.vm.assignable cell.cls c = true) :
    Sem.wp (findHandler.go f a (x :: t)) Q E e d acts s ↔ Q (.found x.handlerPc) d acts (s.setVm (s.vm.noted f.method.cls x.catchType (.cls c))) := by
  simp only [covers] at hx
  obtain ⟨ha, ht⟩ := (resolveClass_links e.toSetting hl).op (op := VmOp.resolveClass f.method.cls x.catchType) rfl
  have hal : s.vm.Alike (s.vm.noted f.method.cls x.catchType (.cls c)) := (Vm.Alike.refl s.vm).noted _ _ _
  obtain ⟨k1, hk1⟩ := hk
  obtain ⟨k2, hk2⟩ := hc
  obtain ⟨k1', hk1', -⟩ := hal.2.2 _ _ hk1
  obtain ⟨k2', hk2', -⟩ := hal.2.2 _ _ hk2
  have hfit' : (s.vm.noted f.method.cls x.catchType (.cls c)).assignable cell.cls c = true := by rw [hal.assignable]; exact hfit
  simp [findHandler.go, hx, h0, ha, ht, hcell, hobj, hk1', hk2', hfit', VmOp.dirties, VmOp.acts]
theorem mq_go_no {x : ExceptionTableEntry} {t : List ExceptionTableEntry} {c : ClassId} {cell : Cell} (hx : covers x f.pc = true) (h0 : x.catchType ≠ 0)
    (hl : s.vm.ClassLinks e.platform f.method.cls x.catchType c) (hcell : s.heap[a]? = some cell) (hobj : ∀ k, cell.vm ≠ .statics k)
    (hk : ∃ k, s.vm.classes[cell.cls]? = some k) (hc : ∃ k, s.vm.classes[c]? = some k) (hno : s.vm.assignable cell.cls c = false) :
    Sem.wp (findHandler.go f a (x :: t)) Q E e d acts s ↔ Sem.wp (findHandler.go f a t) Q E e d acts (s.setVm (s.vm.noted f.method.cls x.catchType (.cls c))) := by
  simp only [covers] at hx
  obtain ⟨ha, ht⟩ := (resolveClass_links e.toSetting hl).op (op := VmOp.resolveClass f.method.cls x.catchType) rfl
  have hal : s.vm.Alike (s.vm.noted f.method.cls x.catchType (.cls c)) := (Vm.Alike.refl s.vm).noted _ _ _
  obtain ⟨k1, hk1⟩ := hk
  obtain ⟨k2, hk2⟩ := hc
  obtain ⟨k1', hk1', -⟩ := hal.2.2 _ _ hk1
  obtain ⟨k2', hk2', -⟩ := hal.2.2 _ _ hk2
  have hno' : (s.vm.noted f.method.cls x.catchType (.cls c)).assignable cell.cls c = false := by rw [hal.assignable]; exact hno
  simp [findHandler.go, hx, h0, ha, ht, hcell, hobj, hk1', hk2', hno', VmOp.dirties, VmOp.acts]
end MQF
theorem mq_stepTo {e : Env} {s : State} {a : Addr} {f : JFrame} {r : List Frame} {pc : Nat} {vm' : Vm} (hfind : mq_FT e s f a (.found pc) vm') :
    (stepThrowing e s a (.java f :: r)).Is ((s.setVm vm').setFrames (.java { f with pc := pc, stack := [.ref a] } :: r)) [] := by
  simp only [stepThrowing, searchFrame, vmDo]
  generalize hr : Sem.go _ e false [] s = res
  obtain ⟨as, rfl, ha⟩ := Sem.eq_ok_of hr (a := Handler.found pc) (s' := s.setVm vm') (acts' := []) (by simp [hfind _ _ _ _])
  exact ⟨rfl, ha⟩
theorem mq_sfvf (u : State) (vm' : Vm) (F G : List Frame) : ((u.setFrames F).setVm vm').setFrames G = (u.setVm vm').setFrames G := by
  have h1 : (u.setFrames F).setVm vm' = (u.setVm vm').setFrames F := rfl
  rw [h1, State.setFrames_setFrames]
theorem mq_caughtTo {p : Program} {e : Env} {s target : State} {g : JFrame} {c : Code} {below : List Frame} {a : Addr} (h : At s g.method c below) {pc : Nat} {vm' : Vm}
    (hfind : mq_FT e ((s.setTop g).pushFrame (.throwing a)) g a (.found pc) vm') (hrest : Steps p.tables e below ((s.setVm vm').setTop { g with pc := pc, stack := [.ref a] }) target) :
    Steps p.tables e below ((s.setTop g).pushFrame (.throwing a)) target := by
  obtain ⟨hgo, hw⟩ := h.throwing a
  refine Steps.head hgo hw ?_
  rw [stepThread_throwing (frames_entered h.top _), (mq_stepTo (s := (s.setTop g).pushFrame (.throwing a)) hfind).1]
  obtain ⟨g₀, hg⟩ := Option.isSome_iff_exists.mp h.top
  obtain ⟨r, hr⟩ := State.topJava?_eq_some.mp hg
  have hr' : (s.setVm vm').frames = .java g₀ :: r := hr
  rw [State.setTop_of_frames _ hr'] at hrest
  rw [hr, List.tail_cons, State.pushFrame, mq_sfvf, State.setTop_of_frames _ hr, mq_sfvf]
  exact hrest
def mq_RP (pl : Platform) (s₀ : State) (d : ClassId) (pc : Nat) (thrown : ClassId) (y : ExceptionTableEntry) : Prop := covers y pc = false ∨ (y.catchType ≠ 0 ∧ ∃ c, s₀.vm.ClassLinks pl d y.catchType c ∧ s₀.vm.assignable thrown c = false)
theorem mq_through {e : Env} {s₀ : State} {f : JFrame} {a : Addr} {cell : Cell} (hobj : ∀ k, cell.vm ≠ .statics k) (hk0 : ∃ k, s₀.vm.classes[cell.cls]? = some k)
    (x : ExceptionTableEntry) (rest : List ExceptionTableEntry) (hx : covers x f.pc = true) (h0 : x.catchType ≠ 0) {cx : ClassId} (hlx : s₀.vm.ClassLinks e.platform f.method.cls x.catchType cx) (hfit : s₀.vm.assignable cell.cls cx = true) :
    ∀ (pre : List ExceptionTableEntry) (S : State), s₀.WarmedH S.vm → S.heap[a]? = some cell → (∀ y ∈ pre, mq_RP e.platform s₀ f.method.cls f.pc cell.cls y) →
      ∃ vm', s₀.WarmedH vm' ∧ ∀ (Q : Handler → Pre) (E : CtlPost) (d : Bool) (acts : List Action), Sem.wp (findHandler.go f a (pre ++ x :: rest)) Q E e d acts S ↔ Q (.found x.handlerPc) d acts (S.setVm vm') := by
  obtain ⟨k0, hk0⟩ := hk0
  intro pre
  induction pre with
  | nil =>
    intro S hW hcell _
    obtain ⟨k0', hk0', -⟩ := hW.alike.2.2 _ _ hk0
    obtain ⟨dk, _, _, kt, hd, _, _, _, _, hkt, _, hopen⟩ := hlx.here
    obtain ⟨kt', hkt', -⟩ := hW.alike.2.2 _ _ hkt
    exact ⟨_, hW.noted hd hopen (State.rightAt_cls hlx), fun Q E d acts => by
      rw [List.nil_append]
      exact mq_go_link hx h0 (hW.classLinks hlx) hcell hobj ⟨k0', hk0'⟩ ⟨kt', hkt'⟩ (by rw [hW.alike.assignable]; exact hfit)⟩
  | cons y ys ih =>
    intro S hW hcell hpass
    obtain ⟨k0', hk0', -⟩ := hW.alike.2.2 _ _ hk0
    have hrest : ∀ z ∈ ys, mq_RP e.platform s₀ f.method.cls f.pc cell.cls z := fun z hz => hpass z (List.mem_cons_of_mem _ hz)
    by_cases hcov : covers y f.pc = true
    · rcases hpass y List.mem_cons_self with h | ⟨g0, c, hl, hno⟩
      · rw [h] at hcov; cases hcov
      · obtain ⟨dk, _, _, kt, hd, _, _, _, _, hkt, _, hopen⟩ := hl.here
        obtain ⟨kt', hkt', -⟩ := hW.alike.2.2 _ _ hkt
        obtain ⟨vm', hW', hq⟩ := ih (S.setVm (S.vm.noted f.method.cls y.catchType (.cls c))) (hW.noted hd hopen (State.rightAt_cls hl)) hcell hrest
        exact ⟨vm', hW', fun Q E d acts => by
          rw [List.cons_append, mq_go_no hcov g0 (hW.classLinks hl) hcell hobj ⟨k0', hk0'⟩ ⟨kt', hkt'⟩ (by rw [hW.alike.assignable]; exact hno)]
          exact hq Q E d acts⟩
    · obtain ⟨vm', hW', hq⟩ := ih S hW hcell hrest
      exact ⟨vm', hW', fun Q E d acts => by
        rw [List.cons_append, Jvm.W.findHandler_go_skip (by simpa using hcov)]
        exact hq Q E d acts⟩
section MQJ
variable {p : Program} {l : Launch} {e : Env} {R : Room} {s : State} {m : MethodId} {args : Array Value} {below : List Frame} {meth : Method} {c : Code} {T : State} {locs : List Loc} {cells slots : Nat}
/-- caught in the walked method -/
theorem mq_caught (X : Stand p l e R s m args below meth c T locs cells slots) (a : Addr) {g : JFrame} (hg : g.method = m) {cell : Cell} (hcell : T.heap[a]? = some cell) (hobj : cell.vm.isStatics = false)
    (hk0 : ∃ k, s.vm.classes[cell.cls]? = some k)
    (pre : List ExceptionTableEntry) (x : ExceptionTableEntry) (rest : List ExceptionTableEntry) (hsplit : c.exceptionTable.toList = pre ++ x :: rest)
    (hpass : ∀ y ∈ pre, mq_RP e.platform s m.cls g.pc cell.cls y) (hx : covers x g.pc = true) (h0 : x.catchType ≠ 0) {cx : ClassId} (hlx : s.vm.ClassLinks e.platform m.cls x.catchType cx) (hfit : s.vm.assignable cell.cls cx = true) :
    ∃ vm', Stand p l e R s m args below meth c (T.setVm vm') locs cells slots ∧
      ∀ target, Steps p.tables e below ((T.setVm vm').setTop { g with pc := x.handlerPc, stack := [.ref a] }) target → Steps p.tables e below ((T.setTop g).pushFrame (.throwing a)) target := by
  subst hg
  obtain ⟨vm', hW', hq⟩ := mq_through (e := e) (s₀ := s) (f := g) (a := a) (cell := cell) (VmData.ne_statics_of hobj) hk0 x rest hx h0 hlx hfit pre ((T.setTop g).pushFrame (.throwing a)) X.warmed hcell hpass
  refine ⟨vm', X.noted hW', fun target hrest => mq_caughtTo X.here (fun Q E d acts => ?_) hrest⟩
  rw [Jvm.W.findHandler_eq (s := (T.setTop g).pushFrame (.throwing a)) (meth := meth) (code := c) (by exact X.method') X.code, hsplit]
  exact hq Q E d acts
end MQJ
end
section
/-! Where the references lead, once all is made. -/
def pg_rho : Nat → Nat → Nat → mRf := fun k i j => match k, j with
  | 0, 0 => some (11, 2 + i)
  | 1, 0 => some (14, 0)
  | 1, 1 => some (14, 1)
  | 1, 2 => some (14, 2)
  | 1, 3 => some (14, 3)
  | 2, 0 => some (11, 0)
  | 2, 1 => some (11, 1)
  | 3, 0 => some (15, i)
  | 4, 1 => some (3, i)
  | 4, 2 => some (22, i)
  | 4, 3 => some (10, 2 * i)
  | 4, 4 => some (10, 2 * i + 1)
  | 5, 1 => some (13, i)
  | 6, 0 => some (20, 0)
  | 6, 1 => some (21, 0)
  | 6, 2 => some (2, 0)
  | 6, 3 => some (1, 0)
  | 20, j => some (4, j)
  | 21, j => some (0, j)
  | 22, j => some (5, 8 * i + j)
  | _, _ => none
theorem tst_43 (d q : Nat) (x : Int32) (c : Nat → Nat) (σ : Nat → Nat → Nat → Int32) (τ : Nat → Nat → Nat → Int64) :
    pX 100000 (d + 1) 43 [.inr (some (5, q)), .inl x] (c, σ, pg_rho, τ) = (if x < 0 then some (.inl (some (.inl 0)), (c, σ, pg_rho, τ)) else if x < 32 then (if x < 0 ∨ 32 ≤ x.toNatClampNeg then none else some (.inl (some (.inl (σ 13 q x.toNatClampNeg))), (c, σ, pg_rho, τ))) else some (.inl (some (.inl 0)), (c, σ, pg_rho, τ))) := rfl
theorem tst_16 (F d : Nat) (x y : Int32) (M : mMm) : pX (F + 40) (d + 1) 16 [.inl x, .inl y] M = if x < 0 then some (.inl (some (.inl 0)), M) else if x < 1024 then (if x &&& (y - 1) = 0 then some (.inl (some (.inl 1)), M) else some (.inl (some (.inl 0)), M)) else some (.inl (some (.inl 0)), M) := rfl
theorem tst_17 (F d i : Nat) (x : Int32) (c : Nat → Nat) (σ : Nat → Nat → Nat → Int32) (τ : Nat → Nat → Nat → Int64) (h0 : ¬ x < 0) (h1 : x < 1024) (h2 : x &&& (4 - 1) = 0) (h3 : ¬ (x >>> (2 &&& 31) < 0 ∨ 256 ≤ (x >>> (2 &&& 31)).toNatClampNeg)) : pX (F + 40) (d + 2) 17 [.inr (some (3, i)), .inl x] (c, σ, pg_rho, τ) = some (.inl (some (.inl (σ 15 i (x >>> (2 &&& 31)).toNatClampNeg))), (c, σ, pg_rho, τ)) := by
  have e : pX (F + 40) (d + 1) 16 [.inl x, .inl 4] (c, σ, pg_rho, τ) = some (.inl (some (.inl 1)), (c, σ, pg_rho, τ)) := by
    rw [tst_16, if_neg h0, if_pos h1, if_pos h2]
  have e2 : pX (F + 40) (d + 2) 17 [.inr (some (3, i)), .inl x] (c, σ, pg_rho, τ) = (match pX (F + 40) (d + 1) 16 [.inl x, .inl 4] (c, σ, pg_rho, τ) with
    | some (.inl w, M') => mq_loop pg_ki pg_sw (fun _ _ => none) pg_mx (mq_ex pg_ki pg_sw (fun _ _ => none) pg_mx pg_Z.2.2.1 pg_c (F + 40) (d + 1)) (pg_c 17) (pg_mx 17) none (F + 37) 5 (mq_en 0 [.inr (some (3, i)), .inl x]) (mq_psh w []) M' 0 0
    | _ => none) := rfl
  rw [e2, e]
  show (if x >>> (2 &&& 31) < 0 ∨ 256 ≤ (x >>> (2 &&& 31)).toNatClampNeg then none else _) = _
  rw [if_neg h3]
  rfl
end
