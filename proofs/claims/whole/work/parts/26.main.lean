/-! THE MACHINE IS RIGHT: what it answers, the JVM does. -/
def mq_len : ClassFile.Instr → Nat
  | .bipush _ => 2
  | .ldc _ => 2
  | .iload _ => 2
  | .aload _ => 2
  | .istore _ => 2
  | .astore _ => 2
  | .newarray _ => 2
  | .sipush _ => 3
  | .ldc2_w _ => 3
  | .iinc _ _ => 3
  | .goto _ => 3
  | .ifCond _ _ => 3
  | .if_icmp _ _ => 3
  | .if_acmp _ _ => 3
  | .ifnull _ => 3
  | .ifnonnull _ => 3
  | .getfield _ => 3
  | .putfield _ => 3
  | .new _ => 3
  | .anewarray _ => 3
  | .invokespecial _ => 3
  | .invokevirtual _ => 3
  | .invokestatic _ => 3
  | _ => 1
/-- a class of the world: its table, its words -/
def mq_okc (Ts : List Cond) (cl : List vw_C) (E : mEv) (k : Nat) (C1 : String) (T : u_T) (N : Nat) (ty0 : Nat → FieldType) : Prop :=
  E.1 k = (0, k, N) ∧ cl[k]? = some (C1, T, N) ∧ (∀ w ∈ u_ws C1 T N, w ∈ Ts) ∧ (∀ j, j < N → parseFieldDescriptor (T j).2.2.1 = some (ty0 j)) ∧ (∀ a, a < N → ∀ b, b < N → a ≠ b → (T a).2.1 ≠ (T b).2.1) ∧ ∀ j, j < N → defaultValue (ty0 j) = if E.2.1 k j then .null else .int 0
/-- a field that an instruction names: c = 0 an int, 1 a reference, 2 a boolean -/
def mq_okf (own : String) (Ts : List Cond) (cl : List vw_C) (E : mEv) (k b c ix : Nat) (P : Bool → String → Prop) : Prop :=
  ∃ (C1 : String) (T : u_T) (N : Nat) (ty0 : Nat → FieldType), mq_okc Ts cl E k C1 T N ty0 ∧ b < N ∧ Jvm.Cond.fieldLink own ix (T b).1 (T b).2.1 (T b).2.2.1 ∈ Ts ∧ P (T b).2.2.2 (T b).1 ∧
    (match c with
     | 0 => E.2.1 k b = false ∧ ty0 b = .int
     | 1 => E.2.1 k b = true ∧ ((∃ n, ty0 b = .object n) ∨ ∃ t, ty0 b = .array t)
     | 2 => E.2.1 k b = false ∧ ty0 b = .boolean
     | _ => False)
/-- the callees: names, codes, words -/
abbrev mCe : Type := (Nat → MethodName) × (Nat → ByteArray) × (Nat → Nat) × (Nat → Option FieldType) × List Cond
def mq_ws (Z : mCe) (a : Nat) : List Cond := .code (Z.1 a) (Z.2.1 a) (Z.2.2.1 a) (Z.2.2.2.1 a) :: Z.2.2.2.2
def mq_rm (mx : Nat → Nat × Nat × Nat) (d a : Nat) : Room := { frames := d, cells := (mx a).1, slots := (mx a).2.1, locals := 37 * d }
/-- what every call asks of the tables -/
def mq_okk (Ts : List Cond) (Z : mCe) (a nA : Nat) (L : Prop) : Prop :=
  GoodIn Ts (mq_ws Z a) ∧ Jvm.Cond.initialized (Z.1 a).cls ∈ Ts ∧ L ∧ ((Z.1 a).cls ≠ "java/lang/invoke/MethodHandle" ∧ (Z.1 a).cls ≠ "java/lang/invoke/VarHandle" ∧ (parseMethodDescriptor (Z.1 a).desc).map (fun d => d.parameters.length) = some nA) ∧ Z.2.2.1 a ≤ 18
/-- what a row asks of the tables, its bytes apart -/
def mq_ext (nL : Nat) (own : String) (Ts : List Cond) (cl : List vw_C) (tys : List (ClassId × FieldType)) (E : mEv) (Z : mCe) (mx : Nat → Nat × Nat × Nat) (ini : Bool) (rt : Option FieldType) (X : State → Prop) : mEn → Prop
  | (pc, ins, _, a, b, c, v) =>
    match ins with
    | .iconst n => Int32.ofInt n = v
    | .bipush n => (Int8.ofInt n).toInt32 = v
    | .sipush n => (Int16.ofInt n).toInt32 = v
    | .ldc ix => Jvm.Cond.constant own ix v ∈ Ts
    | .ldc2_w ix => Jvm.Cond.constantLong own ix (Int64.ofNat a) ∈ Ts
    | .istore i => i < nL
    | .istore_n i => i.val < nL
    | .astore i => i < nL
    | .astore_n i => i.val < nL
    | .iinc i n => i < nL ∧ Int32.ofInt n = v
    | .goto off => (pc : Int) + off = (a : Int)
    | .ifCond _ off => (pc : Int) + off = (a : Int)
    | .if_icmp _ off => (pc : Int) + off = (a : Int)
    | .ifnull off => (pc : Int) + off = (a : Int)
    | .ifnonnull off => (pc : Int) + off = (a : Int)
    | .getfield ix => mq_okf own Ts cl E a b c ix (fun _ _ => True)
    | .putfield ix => mq_okf own Ts cl E a b c ix (fun f o => f = false ∨ (f = true ∧ ini = true ∧ o = own))
    | .new ix => (E.1 a).1 = 0 → a ≠ 999 ∧ ∃ (C1 : String) (T : u_T) (N : Nat) (ty0 : Nat → FieldType), mq_okc Ts cl E a C1 T N ty0 ∧ Jvm.Cond.classLink own ix C1 ∈ Ts ∧ Jvm.Cond.instantiable C1 N ∈ Ts ∧ Jvm.Cond.initialized C1 ∈ Ts
    | .newarray t => a ≠ 999 ∧ (E.1 a).2.2 ≤ 65536 ∧ ((t = .int ∧ (E.1 a).1 = 1 ∧ Jvm.Cond.arrayClass .int ∈ Ts) ∨ (t = .long ∧ (E.1 a).1 = 2 ∧ Jvm.Cond.arrayClass .long ∈ Ts) ∨ (t = .byte ∧ (E.1 a).1 = 4 ∧ Jvm.Cond.arrayClass .byte ∈ Ts) ∨ (t = .boolean ∧ (E.1 a).1 = 5 ∧ Jvm.Cond.arrayClass .boolean ∈ Ts))
    | .anewarray ix => a ≠ 999 ∧ (E.1 a).2.2 ≤ 65536 ∧ (E.1 a).1 = 3 ∧ ∃ (C1 : String) (t0 : Nat), tys[t0]? = some (E.2.2 (100 + (E.1 a).2.1), FieldType.object C1) ∧ Jvm.Cond.classLink own ix C1 ∈ Ts ∧ ∀ s : State, X s → va_AO C1 s
    | .invokespecial ix => (match a with
      | 0 => b = 1 ∧ Jvm.Cond.methodLink own ix objectInit ∈ Ts ∧ Jvm.Cond.instanceMethod objectInit ∈ Ts ∧ Jvm.Cond.code objectInit ⟨#[0xb1]⟩ 1 none ∈ Ts
      | a + 1 => ∃ nA, b = nA + 1 ∧ mq_okk Ts Z a nA (Jvm.Cond.methodLink own ix (Z.1 a) ∈ Ts ∨ ∃ host, ∀ s : State, X s → va_Nw (.methodLinkNest own ix (Z.1 a) host) s) ∧ (Z.1 a).name = "<init>" ∧ Jvm.Cond.instanceMethod (Z.1 a) ∈ Ts ∧ Z.2.2.2.1 a = none)
    | .invokevirtual ix => ∃ nA qC, b = nA + 1 ∧ mq_okk Ts Z a nA (Jvm.Cond.methodLink own ix (Z.1 a) ∈ Ts) ∧ Jvm.Cond.instanceMethod (Z.1 a) ∈ Ts ∧ cl[(mx a).2.2]? = some qC ∧ Jvm.Cond.selects qC.1 (Z.1 a) (Z.1 a) ∈ Ts
    | .invokestatic ix => (match c with
      | 7 => Jvm.Cond.methodLink own ix Lib.Math.min.name ∈ Ts ∧ Jvm.Cond.static Lib.Math.min.name ∈ Ts ∧ Jvm.Cond.initialized "java/lang/Math" ∈ Ts ∧ Jvm.Cond.code Lib.Math.min.name Lib.Math.min.code 2 (some .int) ∈ Ts
      | 8 => True
      | _ => mq_okk Ts Z a b (Jvm.Cond.methodLink own ix (Z.1 a) ∈ Ts ∨ ∃ host, ∀ s : State, X s → va_Nw (.methodLinkNest own ix (Z.1 a) host) s) ∧ Jvm.Cond.static (Z.1 a) ∈ Ts)
    | .ireturn => (rt = some .boolean ∧ c = 2) ∨ rt = some .int
    | .areturn => ∃ ty, rt = some ty ∧ ((∃ n, ty = .object n) ∨ ∃ t, ty = .array t)
    | .return_ => rt = none
    | _ => True
/-- a row of a method's code is as the class file and the tables have it -/
def mq_ok (cc : ByteArray) (nL : Nat) (own : String) (Ts : List Cond) (cl : List vw_C) (tys : List (ClassId × FieldType)) (E : mEv) (Z : mCe) (sw : Nat → List (Int32 × Nat)) (mx : Nat → Nat × Nat × Nat) (ini : Bool) (rt : Option FieldType) (X : State → Prop) : mEn → Prop
  | (pc, ins, nx, a, b, c, v) =>
    match ins with
    | .tableswitch d lo hi offs => ∃ len, decode cc pc = .ok (.tableswitch d lo hi offs, len) ∧ (∀ x : Int32, (x.toInt < lo ∨ hi < x.toInt) → mq_swt x a (sw b) = a ∧ (pc : Int) + d = (a : Int)) ∧ ∀ x : Int32, ¬ x.toInt < lo → ¬ hi < x.toInt → ∃ off, offs[(x.toInt - lo).toNat]? = some off ∧ (pc : Int) + off = (mq_swt x a (sw b) : Nat)
    | .lookupswitch d ps => ∃ len, decode cc pc = .ok (.lookupswitch d ps, len) ∧ (ps.toList.zip (ps.toList.drop 1)).all (fun (a, next) => a.1 < next.1) = true ∧ ∀ x : Int32, (pc : Int) + Op.lookupswitch.offset ps.toList d x.toInt = (mq_swt x a (sw b) : Nat)
    | ins => (decode cc pc = .ok (ins, mq_len ins) ∧ nx = pc + mq_len ins) ∧
      mq_ext nL own Ts cl tys E Z mx ini rt X (pc, ins, nx, a, b, c, v)
theorem mq_lk_spec {pc : Nat} {en : mEn} : ∀ {code : List mEn}, mq_lk pc code = some en → en.1 = pc ∧ en ∈ code
  | [], h => by cases h
  | e :: r, h => by
    unfold mq_lk at h
    split at h
    · rename_i hq
      cases h
      exact ⟨hq, List.mem_cons_self⟩
    · obtain ⟨h1, h2⟩ := mq_lk_spec h
      exact ⟨h1, List.mem_cons_of_mem _ h2⟩
section MQX
variable {p : Program} {l : Launch} {e : Env} {R : Room} {s : State} {m : MethodId} {args : Array Value} {below : List Frame} {meth : Method} {c : Code} {Q : State → Prop}
variable {cc : ByteArray} {nL : Nat} {own : String} {Ts : List Cond} {D : va_G} {cl : List vw_C} {tys : List (ClassId × FieldType)} {A : Nat → Prop} {X : State → Prop} {E : mEv} {ad0 : Nat × Nat → Nat} {refs0 : List (Nat × Nat)}
variable {Z : mCe} {sw : Nat → List (Int32 × Nat)} {hn : Nat → Nat → Option Nat} {mx : Nat → Nat × Nat × Nat} {call : Nat → List mLV → mMm → mRs} {code : List mEn} {lim : Nat × Nat × Nat} {scr : Option (Nat × (Nat → Int32))} {ini : Bool} {rt : Option FieldType} {d : Nat} {res : (Option mLV ⊕ Nat) × mMm}
theorem mq_callB {a nA ix : Nat} {L : Prop} (C : mq_C p s m args c cc nL own Ts D cl tys A X) (hR : d + 1 ≤ R.frames ∧ 37 * (d + 1) ≤ R.locals ∧ lim.1 ≤ R.cells ∧ lim.2.1 ≤ R.slots) (hk : mq_okk Ts Z a nA L) (hl : Jvm.Cond.methodLink own ix (Z.1 a) ∈ Ts) : CallB R s args own ix (Z.1 a) (Z.2.1 a) (Z.2.2.1 a) (Z.2.2.2.1 a) (mq_ws Z a) (mq_rm mx d a) (mx a).1 (mx a).2.1 nA :=
  callB_of nA C.2.2.2.2.1 hk.1 rfl rfl rfl (C.2.2.2.2.1 _ hk.2.1) (C.2.2.2.2.1 _ hl) hk.2.2.2.1 ⟨by show d + 1 ≤ R.frames; omega, by show 8 + (Z.2.2.1 a + 11) + 37 * d ≤ R.locals; have := hk.2.2.2.2; omega⟩
theorem mq_callN {a nA ix : Nat} {L : Prop} {host : String} (C : mq_C p s m args c cc nL own Ts D cl tys A X) (hR : d + 1 ≤ R.frames ∧ 37 * (d + 1) ≤ R.locals ∧ lim.1 ≤ R.cells ∧ lim.2.1 ≤ R.slots) (hk : mq_okk Ts Z a nA L) (hl : va_Nw (.methodLinkNest own ix (Z.1 a) host) s) : va_CN R s args own ix (Z.1 a) host (Z.2.1 a) (Z.2.2.1 a) (Z.2.2.2.1 a) (mq_ws Z a) (mq_rm mx d a) (mx a).1 (mx a).2.1 nA :=
  va_cnB nA C.2.2.2.2.1 hk.1 rfl rfl rfl hl (C.2.2.2.2.1 _ hk.2.1) hk.2.2.2.1 ⟨by show d + 1 ≤ R.frames; omega, by show 8 + (Z.2.2.1 a + 11) + 37 * d ≤ R.locals; have := hk.2.2.2.2; omega⟩
set_option maxHeartbeats 4000000 in
set_option maxRecDepth 100000 in
theorem mq_main (C : mq_C p s m args c cc nL own Ts D cl tys A X) (h9 : (E.1 999).1 = 9) (hini : ini = true → meth.name = "<init>") {tI tL tB tZ : Nat} (htI : tys[tI]? = some (E.2.2 1, .int)) (htL : tys[tL]? = some (E.2.2 2, .long)) (htB : tys[tB]? = some (E.2.2 4, .byte)) (htZ : tys[tZ]? = some (E.2.2 5, .boolean))
    (htQ : ∀ k, (E.1 k).1 = 3 → ∃ (C1 : String) (T : u_T) (N t0 : Nat), E.1 (E.1 k).2.1 = (0, (E.1 k).2.1, N) ∧ cl[(E.1 k).2.1]? = some (C1, T, N) ∧ tys[t0]? = some (E.2.2 (100 + (E.1 k).2.1), .object C1))
    (htO : ∀ k, (E.1 k).1 = 0 → (E.1 k).2.1 = k)
    (hok : ∀ en ∈ code, mq_ok cc nL own Ts cl tys E Z sw mx ini rt X en)
    (hcall : ∀ a as M rv M', call a as M = some (.inl rv, M') → mq_Met l X E D cl tys (Z.1 a) (mq_ws Z a) (mq_rm mx d a) (mx a).1 (mx a).2.1 as M rv M')
    (hR : d + 1 ≤ R.frames ∧ 37 * (d + 1) ≤ R.locals ∧ lim.1 ≤ R.cells ∧ lim.2.1 ≤ R.slots)
    (hscr : ∀ w, scr = some w → va_X (ad0 mq_sr) w.1 w.2 s s.heap ∧ ad0 mq_sr < s.heap.size ∧ ¬ A (ad0 mq_sr))
    (hcat : ∀ pc ix nx a b sc v, (pc, ClassFile.Instr.invokevirtual ix, nx, a, b, sc, v) ∈ code → ∀ lv st M cs ss q as r x M' hp, mq_pop b st [] = some (.inr (some q) :: as, r) → (E.1 q.1).1 = 0 → (E.1 q.1).2.1 = (mx a).2.2 → mq_rl r ≤ 8 → cs + (mx a).1 ≤ lim.1 → ss + (mx a).2.1 ≤ lim.2.1 → call a (.inr (some q) :: as) M = some (.inr x, M') → hn sc x = some hp → mq_G p l e R s m args below meth c Q nL E D cl A ad0 refs0 hp [] [] M' (cs + (mx a).1) (ss + (mx a).2.1) → mq_G p l e R s m args below meth c Q nL E D cl A ad0 refs0 pc lv st M cs ss)
    (hcw : ∀ pc ix nx a b v, (pc, ClassFile.Instr.invokestatic ix, nx, a, b, 8, v) ∈ code → ∀ lv st M cs ss as r w M', mq_pop b st [] = some (as, r) → mq_rl r ≤ 8 → cs + (mx a).1 ≤ lim.1 → ss + (mx a).2.1 ≤ lim.2.1 → call a as M = some (.inl w, M') → mq_G p l e R s m args below meth c Q nL E D cl A ad0 refs0 (pc + 3) lv (mq_psh w r) M' (cs + (mx a).1) (ss + (mx a).2.1) → mq_G p l e R s m args below meth c Q nL E D cl A ad0 refs0 pc lv st M cs ss)
    (hri : ∀ pc lv x M cs ss, decode cc pc = .ok (.ireturn, 1) → ((rt = some .boolean ∧ (x = 0 ∨ x = 1)) ∨ rt = some .int) → res = (.inl (some (.inl x)), M) → cs ≤ lim.1 → ss ≤ lim.2.1 → mq_G p l e R s m args below meth c Q nL E D cl A ad0 refs0 pc lv [.inl x] M cs ss)
    (hra : ∀ pc lv w M cs ss, decode cc pc = .ok (.areturn, 1) → (∃ ty, rt = some ty ∧ ((∃ n, ty = .object n) ∨ ∃ t, ty = .array t)) → res = (.inl (some (.inr w)), M) → cs ≤ lim.1 → ss ≤ lim.2.1 → mq_G p l e R s m args below meth c Q nL E D cl A ad0 refs0 pc lv [.inr (.inl w)] M cs ss)
    (hrv : ∀ pc lv M cs ss, decode cc pc = .ok (.return_, 1) → rt = none → res = (.inl none, M) → cs ≤ lim.1 → ss ≤ lim.2.1 → mq_G p l e R s m args below meth c Q nL E D cl A ad0 refs0 pc lv [] M cs ss)
    (hth : ∀ en ∈ code, ∀ ix, en.2.1 = .new ix → (E.1 en.2.2.2.1).1 = 8 → ∀ lv M cs ss, res = (.inr (E.1 en.2.2.2.1).2.1, M) → cs + 1 ≤ lim.1 → ss + (E.1 en.2.2.2.1).2.2 ≤ lim.2.1 → mq_G p l e R s m args below meth c Q nL E D cl A ad0 refs0 en.1 lv [] M cs ss) :
    ∀ (f pc : Nat) (lv : List (Nat × mLV)) (st : List mAV) (M : mMm) (cs ss : Nat), cs ≤ lim.1 → ss ≤ lim.2.1 → mq_loop E.1 sw hn mx call code lim scr f pc lv st M cs ss = some res → mq_G p l e R s m args below meth c Q nL E D cl A ad0 refs0 pc lv st M cs ss := by
  intro f
  induction f with
  | zero => intro pc lv st M cs ss _ _ h; cases h
  | succ f ih =>
    intro pc lv st M cs ss hcs hss h0
    have h : mq_st E.1 sw hn mx call code lim scr (mq_loop E.1 sw hn mx call code lim scr f) pc lv st M cs ss = some res := h0
    clear h0
    unfold mq_st at h
    cases hlk : mq_lk pc code with
    | none => rw [hlk] at h; cases h
    | some en =>
      rw [hlk] at h
      obtain ⟨pc', ins, nx, a, b, sc, v⟩ := en
      obtain ⟨hpc, hmem⟩ := mq_lk_spec hlk
      have hpc : pc' = pc := hpc
      subst hpc
      have ok := hok _ hmem
      clear hlk
      cases ins
      all_goals dsimp only at h
      all_goals first | (cases h; done) | skip
      case iadd =>
        obtain ⟨⟨hd, hnx⟩, -⟩ := ok
        subst hnx
        split at h
        · exact mq_g_iadd C hd (ih _ _ _ _ _ _ hcs hss h)
        · cases h
      case isub =>
        obtain ⟨⟨hd, hnx⟩, -⟩ := ok
        subst hnx
        split at h
        · exact mq_g_isub C hd (ih _ _ _ _ _ _ hcs hss h)
        · cases h
      case imul =>
        obtain ⟨⟨hd, hnx⟩, -⟩ := ok
        subst hnx
        split at h
        · exact mq_g_imul C hd (ih _ _ _ _ _ _ hcs hss h)
        · cases h
      case iand =>
        obtain ⟨⟨hd, hnx⟩, -⟩ := ok
        subst hnx
        split at h
        · exact mq_g_iand C hd (ih _ _ _ _ _ _ hcs hss h)
        · cases h
      case ior =>
        obtain ⟨⟨hd, hnx⟩, -⟩ := ok
        subst hnx
        split at h
        · exact mq_g_ior C hd (ih _ _ _ _ _ _ hcs hss h)
        · cases h
      case ixor =>
        obtain ⟨⟨hd, hnx⟩, -⟩ := ok
        subst hnx
        split at h
        · exact mq_g_ixor C hd (ih _ _ _ _ _ _ hcs hss h)
        · cases h
      case ishl =>
        obtain ⟨⟨hd, hnx⟩, -⟩ := ok
        subst hnx
        split at h
        · exact mq_g_ishl C hd (ih _ _ _ _ _ _ hcs hss h)
        · cases h
      case ishr =>
        obtain ⟨⟨hd, hnx⟩, -⟩ := ok
        subst hnx
        split at h
        · exact mq_g_ishr C hd (ih _ _ _ _ _ _ hcs hss h)
        · cases h
      case iushr =>
        obtain ⟨⟨hd, hnx⟩, -⟩ := ok
        subst hnx
        split at h
        · exact mq_g_iushr C hd (ih _ _ _ _ _ _ hcs hss h)
        · cases h
      case irem =>
        obtain ⟨⟨hd, hnx⟩, -⟩ := ok
        subst hnx
        split at h
        · split at h
          · cases h
          · rename_i hne
            exact mq_g_irem C hd hne (ih _ _ _ _ _ _ hcs hss h)
        · cases h
      case idiv =>
        obtain ⟨⟨hd, hnx⟩, -⟩ := ok
        subst hnx
        split at h
        · split at h
          · cases h
          · rename_i hne
            exact mq_g_idiv C hd hne (ih _ _ _ _ _ _ hcs hss h)
        · cases h
      case ineg =>
        obtain ⟨⟨hd, hnx⟩, -⟩ := ok
        subst hnx
        split at h
        · exact mq_g_ineg C hd (ih _ _ _ _ _ _ hcs hss h)
        · cases h
      case i2b =>
        obtain ⟨⟨hd, hnx⟩, -⟩ := ok
        subst hnx
        split at h
        · exact mq_g_i2b C hd (ih _ _ _ _ _ _ hcs hss h)
        · cases h
      case i2s =>
        obtain ⟨⟨hd, hnx⟩, -⟩ := ok
        subst hnx
        split at h
        · exact mq_g_i2s C hd (ih _ _ _ _ _ _ hcs hss h)
        · cases h
      case i2c =>
        obtain ⟨⟨hd, hnx⟩, -⟩ := ok
        subst hnx
        split at h
        · exact mq_g_i2c C hd (ih _ _ _ _ _ _ hcs hss h)
        · cases h
      case i2l =>
        obtain ⟨⟨hd, hnx⟩, -⟩ := ok
        subst hnx
        split at h
        · exact mq_g_i2l C hd (ih _ _ _ _ _ _ hcs hss h)
        · cases h
      case lcmp =>
        obtain ⟨⟨hd, hnx⟩, -⟩ := ok
        subst hnx
        split at h
        · exact mq_g_lcmp C hd (ih _ _ _ _ _ _ hcs hss h)
        · cases h
      case iconst n =>
        obtain ⟨⟨hd, hnx⟩, he⟩ := ok
        subst hnx
        exact mq_g_iconst C hd he (ih _ _ _ _ _ _ hcs hss h)
      case bipush n =>
        obtain ⟨⟨hd, hnx⟩, he⟩ := ok
        subst hnx
        exact mq_g_bipush C hd he (ih _ _ _ _ _ _ hcs hss h)
      case sipush n =>
        obtain ⟨⟨hd, hnx⟩, he⟩ := ok
        subst hnx
        exact mq_g_sipush C hd he (ih _ _ _ _ _ _ hcs hss h)
      case ldc n =>
        obtain ⟨⟨hd, hnx⟩, he⟩ := ok
        subst hnx
        exact mq_g_ldc C hd he (ih _ _ _ _ _ _ hcs hss h)
      case aconst_null =>
        obtain ⟨⟨hd, hnx⟩, -⟩ := ok
        subst hnx
        exact mq_g_null C hd (ih _ _ _ _ _ _ hcs hss h)
      case iload n =>
        obtain ⟨⟨hd, hnx⟩, -⟩ := ok
        subst hnx
        split at h
        · rename_i hi
          exact mq_g_iload C hd hi (ih _ _ _ _ _ _ hcs hss h)
        · cases h
      case iload_n n =>
        obtain ⟨⟨hd, hnx⟩, -⟩ := ok
        subst hnx
        split at h
        · rename_i hi
          exact mq_g_iload_n C hd hi (ih _ _ _ _ _ _ hcs hss h)
        · cases h
      case aload n =>
        obtain ⟨⟨hd, hnx⟩, -⟩ := ok
        subst hnx
        split at h
        · rename_i hi
          exact mq_g_aload C hd hi (ih _ _ _ _ _ _ hcs hss h)
        · cases h
      case aload_n n =>
        obtain ⟨⟨hd, hnx⟩, -⟩ := ok
        subst hnx
        split at h
        · rename_i hi
          exact mq_g_aload_n C hd hi (ih _ _ _ _ _ _ hcs hss h)
        · cases h
      case istore n =>
        obtain ⟨⟨hd, hnx⟩, he⟩ := ok
        subst hnx
        split at h
        · exact mq_g_istore C hd he (ih _ _ _ _ _ _ hcs hss h)
        · cases h
      case istore_n n =>
        obtain ⟨⟨hd, hnx⟩, he⟩ := ok
        subst hnx
        split at h
        · exact mq_g_istore_n C hd he (ih _ _ _ _ _ _ hcs hss h)
        · cases h
      case astore n =>
        obtain ⟨⟨hd, hnx⟩, he⟩ := ok
        subst hnx
        split at h
        · exact mq_g_astore C hd he (ih _ _ _ _ _ _ hcs hss h)
        · cases h
      case astore_n n =>
        obtain ⟨⟨hd, hnx⟩, he⟩ := ok
        subst hnx
        split at h
        · exact mq_g_astore_n C hd he (ih _ _ _ _ _ _ hcs hss h)
        · cases h
      case iinc i n =>
        obtain ⟨⟨hd, hnx⟩, he⟩ := ok
        subst hnx
        split at h
        · rename_i hi
          exact mq_g_iinc C hd he.2 hi he.1 (ih _ _ _ _ _ _ hcs hss h)
        · cases h
      case dup =>
        obtain ⟨⟨hd, hnx⟩, -⟩ := ok
        subst hnx
        split at h
        · split at h
          · rename_i hv
            exact mq_g_dup C hd hv (ih _ _ _ _ _ _ hcs hss h)
          · cases h
        · cases h
      case pop =>
        obtain ⟨⟨hd, hnx⟩, -⟩ := ok
        subst hnx
        split at h
        · split at h
          · rename_i hv
            exact mq_g_pop C hd hv (ih _ _ _ _ _ _ hcs hss h)
          · cases h
        · cases h
      case dup_x1 =>
        obtain ⟨⟨hd, hnx⟩, -⟩ := ok
        subst hnx
        split at h
        · split at h
          · rename_i hv hw
            exact mq_g_dup_x1 C hd hv hw (ih _ _ _ _ _ _ hcs hss h)
          · cases h
        · cases h
      case dup2 =>
        obtain ⟨⟨hd, hnx⟩, -⟩ := ok
        subst hnx
        split at h
        · split at h
          · rename_i hv hw
            exact mq_g_dup2 C hd hv hw (ih _ _ _ _ _ _ hcs hss h)
          · cases h
        · cases h
      case dup_x2 =>
        obtain ⟨⟨hd, hnx⟩, -⟩ := ok
        subst hnx
        split at h
        · split at h
          · rename_i hv hw hz
            exact mq_g_dup_x2 C hd hv hw hz (ih _ _ _ _ _ _ hcs hss h)
          · cases h
        · cases h
      case goto off =>
        obtain ⟨⟨hd, -⟩, he⟩ := ok
        exact mq_g_goto C hd he (ih _ _ _ _ _ _ hcs hss h)
      case ifCond cnd off =>
        obtain ⟨⟨hd, hnx⟩, he⟩ := ok
        subst hnx
        split at h
        · cases cnd
          all_goals dsimp only at h
          · refine mq_g_if_eq C hd he (fun q => ?_) (fun q => ?_)
            · exact ih _ _ _ _ _ _ hcs hss (by rw [if_pos q] at h; exact h)
            · exact ih _ _ _ _ _ _ hcs hss (by rw [if_neg q] at h; exact h)
          · refine mq_g_if_ne C hd he (fun q => ?_) (fun q => ?_)
            · exact ih _ _ _ _ _ _ hcs hss (by rw [if_neg q] at h; exact h)
            · exact ih _ _ _ _ _ _ hcs hss (by rw [if_pos q] at h; exact h)
          · refine mq_g_if_lt C hd he (fun q => ?_) (fun q => ?_)
            · exact ih _ _ _ _ _ _ hcs hss (by rw [if_pos q] at h; exact h)
            · exact ih _ _ _ _ _ _ hcs hss (by rw [if_neg q] at h; exact h)
          · refine mq_g_if_ge C hd he (fun q => ?_) (fun q => ?_)
            · exact ih _ _ _ _ _ _ hcs hss (by rw [if_neg q] at h; exact h)
            · exact ih _ _ _ _ _ _ hcs hss (by rw [if_pos q] at h; exact h)
          · refine mq_g_if_gt C hd he (fun q => ?_) (fun q => ?_)
            · exact ih _ _ _ _ _ _ hcs hss (by rw [if_pos q] at h; exact h)
            · exact ih _ _ _ _ _ _ hcs hss (by rw [if_neg q] at h; exact h)
          · refine mq_g_if_le C hd he (fun q => ?_) (fun q => ?_)
            · exact ih _ _ _ _ _ _ hcs hss (by rw [if_neg q] at h; exact h)
            · exact ih _ _ _ _ _ _ hcs hss (by rw [if_pos q] at h; exact h)
        · cases h
      case if_icmp cnd off =>
        obtain ⟨⟨hd, hnx⟩, he⟩ := ok
        subst hnx
        split at h
        · cases cnd
          all_goals dsimp only at h
          · refine mq_g_icmp_eq C hd he (fun q => ?_) (fun q => ?_)
            · exact ih _ _ _ _ _ _ hcs hss (by rw [if_pos q] at h; exact h)
            · exact ih _ _ _ _ _ _ hcs hss (by rw [if_neg q] at h; exact h)
          · refine mq_g_icmp_ne C hd he (fun q => ?_) (fun q => ?_)
            · exact ih _ _ _ _ _ _ hcs hss (by rw [if_neg q] at h; exact h)
            · exact ih _ _ _ _ _ _ hcs hss (by rw [if_pos q] at h; exact h)
          · refine mq_g_icmp_lt C hd he (fun q => ?_) (fun q => ?_)
            · exact ih _ _ _ _ _ _ hcs hss (by rw [if_pos q] at h; exact h)
            · exact ih _ _ _ _ _ _ hcs hss (by rw [if_neg q] at h; exact h)
          · refine mq_g_icmp_ge C hd he (fun q => ?_) (fun q => ?_)
            · exact ih _ _ _ _ _ _ hcs hss (by rw [if_neg q] at h; exact h)
            · exact ih _ _ _ _ _ _ hcs hss (by rw [if_pos q] at h; exact h)
          · refine mq_g_icmp_gt C hd he (fun q => ?_) (fun q => ?_)
            · exact ih _ _ _ _ _ _ hcs hss (by rw [if_pos q] at h; exact h)
            · exact ih _ _ _ _ _ _ hcs hss (by rw [if_neg q] at h; exact h)
          · refine mq_g_icmp_le C hd he (fun q => ?_) (fun q => ?_)
            · exact ih _ _ _ _ _ _ hcs hss (by rw [if_neg q] at h; exact h)
            · exact ih _ _ _ _ _ _ hcs hss (by rw [if_pos q] at h; exact h)
        · cases h
      case ifnull off =>
        obtain ⟨⟨hd, hnx⟩, he⟩ := ok
        subst hnx
        split at h
        · exact mq_g_ifnull_0 C hd he (ih _ _ _ _ _ _ hcs hss h)
        · exact mq_g_ifnull_1 C hd (ih _ _ _ _ _ _ hcs hss h)
        · cases h
      case ifnonnull off =>
        obtain ⟨⟨hd, hnx⟩, he⟩ := ok
        subst hnx
        split at h
        · exact mq_g_ifnonnull_0 C hd (ih _ _ _ _ _ _ hcs hss h)
        · exact mq_g_ifnonnull_1 C hd he (ih _ _ _ _ _ _ hcs hss h)
        · cases h
      case lookupswitch df ps =>
        obtain ⟨len, hd, hp, hx⟩ := ok
        split at h
        · rename_i x r
          have k := ih _ _ _ _ _ _ hcs hss h
          intro H locs ls ad refs hB hl hvl hvs
          exact lv_lookup C.1 C.2.1 hd hp rfl (hx x) (k H locs ls ad refs hB hl hvl (mq_vs_tl hvs))
        · cases h
      case tableswitch df lo hi offs =>
        obtain ⟨len, hd, ho, hx⟩ := ok
        split at h
        · rename_i x r
          have k := ih _ _ _ _ _ _ hcs hss h
          intro H locs ls ad refs hB hl hvl hvs
          have k := k H locs ls ad refs hB hl hvl (mq_vs_tl hvs)
          by_cases h1 : x.toInt < lo
          · exact lv_tableOut C.1 C.2.1 hd (Or.inl h1) (by rw [(ho x (Or.inl h1)).1]; exact (ho x (Or.inl h1)).2) k
          · by_cases h2 : hi < x.toInt
            · exact lv_tableOut C.1 C.2.1 hd (Or.inr h2) (by rw [(ho x (Or.inr h2)).1]; exact (ho x (Or.inr h2)).2) k
            · obtain ⟨off, h3, h4⟩ := hx x h1 h2
              exact lv_tableIn C.1 C.2.1 hd h1 h2 h3 h4 k
        · cases h
      case getfield ix =>
        obtain ⟨⟨hd, hnx⟩, he⟩ := ok
        subst hnx
        obtain ⟨C1, T, N, ty0, ⟨k1, k2, k3, k4, k5, k6⟩, hb, hlink, -, hsort⟩ := he
        split at h
        · rename_i q r
          split at h
          · rename_i hqa
            have hk : E.1 q.1 = (0, a, N) := by rw [hqa]; exact k1
            split at h
            · exact mq_g_get1 C h9 hk k2 k3 hb hsort.1 hlink hd (ih _ _ _ _ _ _ hcs hss h)
            · rename_i hne
              match sc, hsort, hne, h with
              | 0, hsort, _, h => exact mq_g_get0 C h9 hk k2 k3 hb hsort.1 hlink hd (ih _ _ _ _ _ _ hcs hss h)
              | 1, _, hne, _ => exact absurd rfl hne
              | 2, hsort, _, h => exact mq_g_get0 C h9 hk k2 k3 hb hsort.1 hlink hd (ih _ _ _ _ _ _ hcs hss h)
              | n + 3, hsort, _, _ => exact hsort.elim
          · cases h
        · cases h
      case putfield ix =>
        obtain ⟨⟨hd, hnx⟩, he⟩ := ok
        subst hnx
        obtain ⟨C1, T, N, ty0, ⟨k1, k2, k3, k4, k5, k6⟩, hb, hlink, hfin, hsort⟩ := he
        have hfin : (T b).2.2.2 = false ∨ ((T b).2.2.2 = true ∧ meth.name = "<init>" ∧ (T b).1 = own) := hfin.imp id (fun z => ⟨z.1, hini z.2.1, z.2.2⟩)
        split at h
        · rename_i x q r
          split at h
          · rename_i hqa
            have hk : E.1 q.1 = (0, a, N) := by rw [hqa]; exact k1
            match sc, hsort, h with
            | 0, hsort, h => exact mq_g_put0 C h9 hk k2 k3 ty0 k4 k5 hb hsort.1 hlink hfin (by rw [hsort.2]; rfl) (by rw [hsort.2]; rfl) hd (ih _ _ _ _ _ _ hcs hss h)
            | 1, _, h => cases h
            | 2, hsort, h =>
              have h : (if x = 0 ∨ x = 1 then _ else none) = some res := h
              split at h
              · rename_i hx
                exact mq_g_put0 C h9 hk k2 k3 ty0 k4 k5 hb hsort.1 hlink hfin (by rw [hsort.2]; rcases hx with rfl | rfl <;> rfl) (by rw [hsort.2]; rcases hx with rfl | rfl <;> rfl) hd (ih _ _ _ _ _ _ hcs hss h)
              · cases h
            | n + 3, hsort, _ => exact hsort.elim
          · cases h
        · rename_i w q r
          split at h
          · rename_i hqa
            have hk : E.1 q.1 = (0, a, N) := by rw [hqa]; exact k1
            match sc, hsort, h with
            | 0, _, h => cases h
            | 1, hsort, h =>
              have h : (if w = some mq_sr then none else _) = some res := h
              split at h
              · cases h
              · rename_i hw9
                exact mq_g_put1 C h9 hw9 hk k2 k3 ty0 k4 k5 hb hsort.1 hlink hfin hsort.2 hd (ih _ _ _ _ _ _ hcs hss h)
            | 2, _, h => cases h
            | n + 3, hsort, _ => exact hsort.elim
          · cases h
        · cases h
      case arraylength =>
        obtain ⟨⟨hd, hnx⟩, -⟩ := ok
        subst hnx
        split at h
        · rename_i q r
          split at h
          · rename_i ht
            exact mq_g_alen (z := ((E.1 q.1).2.2, .inl (M.2.1 q.1 q.2))) C h9 rfl (by rw [ht]; decide) (fun ad => mq_ceS (ci := (E.1 q.1).2.1) (.inl rfl) (by rw [← ht])) rfl htI hd (ih _ _ _ _ _ _ hcs hss h)
          · rename_i ht
            obtain ⟨C1, T, N, t0, -, hcl, ht0⟩ := htQ q.1 ht
            intro H locs ls ad refs hB hl hvl hvs
            have hm : q ∈ refs := mq_in h9 (hvs q List.mem_cons_self) rfl (by rw [ht]; decide)
            obtain ⟨j, hj⟩ := List.getElem?_of_mem hm
            have he := mq_W_at (E := E) (ad := ad) (M := M) hj
            rw [mq_ce3 (q := q) (ci := (E.1 q.1).2.1) (N := (E.1 q.1).2.2) (by rw [← ht])] at he
            exact va_alen C.1 C.2.1 C.2.2.2.2.2.1 hB.1 j t0 he ht0 rfl hd ((ih _ _ _ _ _ _ hcs hss h) H locs ls ad refs hB hl hvl (mq_vs_int (mq_vs_tl hvs)))
          · split at h
            · rename_i hq
              subst hq
              split at h
              · rename_i w hw
                exact mq_g_slen C (hscr _ rfl) hd (ih _ _ _ _ _ _ hcs hss h)
              · cases h
            · cases h
          · cases h
        · cases h
      case iaload =>
        obtain ⟨⟨hd, hnx⟩, -⟩ := ok
        subst hnx
        split at h
        · rename_i i q r
          split at h
          · rename_i ht
            split at h
            · cases h
            · rename_i hin
              exact mq_g_iald (ci := (E.1 q.1).2.1) (N := (E.1 q.1).2.2) C h9 (by rw [← ht]) htI hin hd (ih _ _ _ _ _ _ hcs hss h)
          · split at h
            · rename_i hq
              subst hq
              split at h
              · rename_i w hw
                split at h
                · cases h
                · rename_i hin
                  exact mq_g_sld C (hscr _ rfl) hin hd (ih _ _ _ _ _ _ hcs hss h)
              · cases h
            · cases h
          · cases h
        · cases h
      case baload =>
        obtain ⟨⟨hd, hnx⟩, -⟩ := ok
        subst hnx
        split at h
        · rename_i i q r
          split at h
          · rename_i ht
            split at h
            · cases h
            · rename_i hin
              exact mq_g_bald (ci := (E.1 q.1).2.1) (N := (E.1 q.1).2.2) C h9 (by rw [← ht]) htB hin hd (ih _ _ _ _ _ _ hcs hss h)
          · rename_i ht
            split at h
            · cases h
            · rename_i hin
              exact mq_g_zald (ci := (E.1 q.1).2.1) (N := (E.1 q.1).2.2) C h9 (by rw [← ht]) htZ hin hd (ih _ _ _ _ _ _ hcs hss h)
          · cases h
        · cases h
      case bastore =>
        obtain ⟨⟨hd, hnx⟩, -⟩ := ok
        subst hnx
        split at h
        · rename_i x i q r
          split at h
          · rename_i ht
            split at h
            · cases h
            · rename_i hin
              exact mq_g_bast (ci := (E.1 q.1).2.1) (N := (E.1 q.1).2.2) C h9 (by rw [← ht]) htB hin hd (ih _ _ _ _ _ _ hcs hss h)
          · rename_i ht
            split at h
            · cases h
            · rename_i hin
              split at h
              · rename_i hx
                exact mq_g_zast (ci := (E.1 q.1).2.1) (N := (E.1 q.1).2.2) C h9 (by rw [← ht]) htZ hin hx hd (ih _ _ _ _ _ _ hcs hss h)
              · cases h
          · cases h
        · cases h
      case ldc2_w n =>
        obtain ⟨⟨hd, hnx⟩, he⟩ := ok
        subst hnx
        exact mq_g_ldc2 C hd he (ih _ _ _ _ _ _ hcs hss h)
      case land =>
        obtain ⟨⟨hd, hnx⟩, -⟩ := ok
        subst hnx
        split at h
        · exact mq_g_land C hd (ih _ _ _ _ _ _ hcs hss h)
        · cases h
      case laload =>
        obtain ⟨⟨hd, hnx⟩, -⟩ := ok
        subst hnx
        split at h
        · rename_i i q r
          split at h
          · rename_i ht
            split at h
            · cases h
            · rename_i hin
              exact mq_g_lald (ci := (E.1 q.1).2.1) (N := (E.1 q.1).2.2) C h9 (by rw [← ht]) htL hin hd (ih _ _ _ _ _ _ hcs hss h)
          · cases h
        · cases h
      case aaload =>
        obtain ⟨⟨hd, hnx⟩, -⟩ := ok
        subst hnx
        split at h
        · rename_i i q r
          split at h
          · rename_i ht
            obtain ⟨C1, T, N, t0, -, hcl, ht0⟩ := htQ q.1 ht
            split at h
            · cases h
            · rename_i hin
              exact mq_g_aald (ci := (E.1 q.1).2.1) (N := (E.1 q.1).2.2) C h9 (by rw [← ht]) ht0 hin hd (ih _ _ _ _ _ _ hcs hss h)
          · cases h
        · cases h
      case iastore =>
        obtain ⟨⟨hd, hnx⟩, -⟩ := ok
        subst hnx
        split at h
        · rename_i x i q r
          split at h
          · rename_i ht
            split at h
            · cases h
            · rename_i hin
              exact mq_g_iast (ci := (E.1 q.1).2.1) (N := (E.1 q.1).2.2) C h9 (by rw [← ht]) htI hin hd (ih _ _ _ _ _ _ hcs hss h)
          · cases h
        · cases h
      case lastore =>
        obtain ⟨⟨hd, hnx⟩, -⟩ := ok
        subst hnx
        split at h
        · rename_i x i q r
          split at h
          · rename_i ht
            split at h
            · cases h
            · rename_i hin
              exact mq_g_last (ci := (E.1 q.1).2.1) (N := (E.1 q.1).2.2) C h9 (by rw [← ht]) htL hin hd (ih _ _ _ _ _ _ hcs hss h)
          · cases h
        · cases h
      case aastore =>
        obtain ⟨⟨hd, hnx⟩, -⟩ := ok
        subst hnx
        split at h
        · rename_i y i q r
          split at h
          · rename_i ht
            obtain ⟨C1, T, N, t0, hkc, hcl, ht0⟩ := htQ q.1 ht
            split at h
            · cases h
            · rename_i hin
              split at h
              · rename_i hy
                have hyk : y.1 = (E.1 q.1).2.1 := (htO y.1 hy.1).symm.trans hy.2
                exact mq_g_aast (ci := (E.1 q.1).2.1) (N := (E.1 q.1).2.2) C h9 (by rw [← ht]) (by rw [hyk]; exact hkc) hcl ht0 hin hd (ih _ _ _ _ _ _ hcs hss h)
              · cases h
          · cases h
        · cases h
      case new ix =>
        have hth := hth _ hmem ix rfl
        obtain ⟨⟨hd, hnx⟩, he⟩ := ok
        subst hnx
        split at h
        · rename_i hlim
          split at h
          · rename_i ht
            obtain ⟨hne, C1, T, N, ty0, ⟨k1, k2, k3, k4, k5, k6⟩, j1, j2, j3⟩ := he ht
            rw [k1] at hlim h
            exact mq_g_new C hne k1 k2 k3 ty0 k4 k6 j1 j2 j3 ⟨Nat.le_trans hlim.1 hR.2.2.1, Nat.le_trans hlim.2 hR.2.2.2⟩ hd (ih _ _ _ _ _ _ hlim.1 hlim.2 h)
          · rename_i ht
            split at h
            · cases h
              exact hth ht lv M cs ss rfl hlim.1 hlim.2
            · cases h
          · cases h
        · cases h
      case newarray t =>
        obtain ⟨⟨hd, hnx⟩, he⟩ := ok
        subst hnx
        obtain ⟨hne, hN, hs⟩ := he
        split at h
        · rename_i n r
          split at h
          · rename_i hlim
            obtain ⟨hn0, hlim⟩ := hlim
            subst hn0
            rcases hs with ⟨rfl, h1, h2⟩ | ⟨rfl, h1, h2⟩ | ⟨rfl, h1, h2⟩ | ⟨rfl, h1, h2⟩
            · exact mq_g_newi (ci := (E.1 a).2.1) C hne (by rw [← h1]) htI hN h2 ⟨Nat.le_trans hlim.1 hR.2.2.1, Nat.le_trans hlim.2 hR.2.2.2⟩ hd (ih _ _ _ _ _ _ hlim.1 hlim.2 h)
            · exact mq_g_newl (ci := (E.1 a).2.1) C hne (by rw [← h1]) htL hN h2 ⟨Nat.le_trans hlim.1 hR.2.2.1, Nat.le_trans hlim.2 hR.2.2.2⟩ hd (ih _ _ _ _ _ _ hlim.1 hlim.2 h)
            · exact mq_g_newb (ci := (E.1 a).2.1) C hne (by rw [← h1]) htB hN h2 ⟨Nat.le_trans hlim.1 hR.2.2.1, Nat.le_trans hlim.2 hR.2.2.2⟩ hd (ih _ _ _ _ _ _ hlim.1 hlim.2 h)
            · exact mq_g_newz (ci := (E.1 a).2.1) C hne (by rw [← h1]) htZ hN h2 ⟨Nat.le_trans hlim.1 hR.2.2.1, Nat.le_trans hlim.2 hR.2.2.2⟩ hd (ih _ _ _ _ _ _ hlim.1 hlim.2 h)
          · cases h
        · cases h
      case anewarray ix =>
        obtain ⟨⟨hd, hnx⟩, he⟩ := ok
        subst hnx
        obtain ⟨hne, hN, h1, C1, t0, ht0, hcl, hao⟩ := he
        split at h
        · rename_i n r
          split at h
          · rename_i hlim
            obtain ⟨hn0, hlim⟩ := hlim
            subst hn0
            exact mq_g_newq (ci := (E.1 a).2.1) C hne (by rw [← h1]) ht0 hN hcl (hao s C.2.2.2.2.2.2.2.1) ⟨Nat.le_trans hlim.1 hR.2.2.1, Nat.le_trans hlim.2 hR.2.2.2⟩ hd (ih _ _ _ _ _ _ hlim.1 hlim.2 h)
          · cases h
        · cases h
      case invokespecial ix =>
        obtain ⟨⟨hd, hnx⟩, he⟩ := ok
        subst hnx
        split at h
        · rename_i q as r hpop
          split at h
          · rename_i hr4
            cases a with
            | zero =>
              obtain ⟨hb, e1, e2, e3⟩ := he
              subst hb
              obtain ⟨hlen, hst⟩ := mq_pop_st hpop
              have has : as = [] := by simpa using hlen
              subst has
              have hst : st = .inr (.inl (some q)) :: r := hst
              subst hst
              exact mq_g_obj C e1 e2 e3 hr4 ⟨by have := hR.1; omega, by have := hR.2.1; omega⟩ hd (ih _ _ _ _ _ _ hcs hss h)
            | succ a =>
              obtain ⟨nA, hb, hk, hnm, hinst, hret⟩ := he
              dsimp only at h
              split at h
              · rename_i hlim
                split at h
                · rename_i w M' hc
                  obtain ⟨hlen, hst⟩ := mq_pop_st hpop
                  have hlen' : as.length = nA := by simp only [List.length_cons] at hlen; omega
                  have hf : cs + (mx a).1 ≤ R.cells ∧ ss + (mx a).2.1 ≤ R.slots := ⟨Nat.le_trans hlim.1 hR.2.2.1, Nat.le_trans hlim.2 hR.2.2.2⟩
                  rcases hk.2.2.1 with hl | ⟨host, hl⟩
                  · have hB := mq_callB (mx := mx) C hR hk hl
                    rw [hret] at hB
                    exact mq_g_callI C hpop (hcall _ _ _ _ _ hc) ⟨hB, hnm, C.2.2.2.2.1 _ hinst⟩ hlen' hr4 hf hd (ih _ _ _ _ _ _ hlim.1 hlim.2 h)
                  · have hB := mq_callN (mx := mx) C hR hk (hl s C.2.2.2.2.2.2.2.1)
                    rw [hret] at hB
                    exact mq_g_callIN C hpop (hcall _ _ _ _ _ hc) ⟨hB, hnm, C.2.2.2.2.1 _ hinst⟩ hlen' hr4 hf hd (ih _ _ _ _ _ _ hlim.1 hlim.2 h)
                · cases h
              · cases h
          · cases h
        · cases h
      case invokevirtual ix =>
        obtain ⟨⟨hd, hnx⟩, he⟩ := ok
        subst hnx
        obtain ⟨nA, qC, hb, hk, hinst, hqC, hsel⟩ := he
        split at h
        · rename_i q as r hpop
          split at h
          · rename_i hlim
            obtain ⟨t1, t2, hr4, hlim⟩ := hlim
            split at h
            · rename_i w M' hc
              obtain ⟨hlen, hst⟩ := mq_pop_st hpop
              exact mq_g_callV (ci := (E.1 q.1).2.1) (N := (E.1 q.1).2.2) C h9 hpop (by rw [← t1]) (by rw [t2]; exact hqC) (hcall _ _ _ _ _ hc) ⟨mq_callB C hR hk hk.2.2.1, C.2.2.2.2.1 _ hinst, C.2.2.2.2.1 _ hsel⟩ (by simp only [List.length_cons] at hlen; omega) hr4 ⟨Nat.le_trans hlim.1 hR.2.2.1, Nat.le_trans hlim.2 hR.2.2.2⟩ hd (ih _ _ _ _ _ _ hlim.1 hlim.2 h)
            · rename_i x M' hc
              split at h
              · rename_i hp hhp
                exact hcat _ _ _ _ _ _ _ hmem _ _ _ _ _ _ _ _ _ _ _ hpop t1 t2 hr4 hlim.1 hlim.2 hc hhp (ih _ _ _ _ _ _ hlim.1 hlim.2 h)
              · cases h
            · cases h
          · cases h
        · cases h
      case invokestatic ix =>
        obtain ⟨⟨hd, hnx⟩, he⟩ := ok
        subst hnx
        split at h
        · obtain ⟨e1, e2, e3, e4⟩ := he
          split at h
          · split at h
            · rename_i hr4
              exact mq_g_min C e1 e2 e3 e4 hr4 ⟨by have := hR.1; omega, by have := hR.2.1; omega⟩ ⟨Nat.le_trans hcs hR.2.2.1, Nat.le_trans hss hR.2.2.2⟩ hd (ih _ _ _ _ _ _ hcs hss h)
            · cases h
          · cases h
        · rename_i hne7
          split at h
          · rename_i as r hpop
            split at h
            · rename_i hlim
              obtain ⟨hr4, hlim⟩ := hlim
              split at h
              · rename_i w M' hc
                obtain ⟨hlen, hst⟩ := mq_pop_st hpop
                by_cases h8 : sc = 8
                · subst h8
                  exact hcw _ _ _ _ _ _ hmem _ _ _ _ _ _ _ _ _ hpop hr4 hlim.1 hlim.2 hc (ih _ _ _ _ _ _ hlim.1 hlim.2 h)
                · have he : mq_okk Ts Z a b (Jvm.Cond.methodLink own ix (Z.1 a) ∈ Ts ∨ ∃ host, ∀ s : State, X s → va_Nw (.methodLinkNest own ix (Z.1 a) host) s) ∧ Jvm.Cond.static (Z.1 a) ∈ Ts := by
                    unfold mq_ext at he
                    dsimp only at he
                    split at he
                    · exact absurd rfl hne7
                    · exact absurd rfl h8
                    · exact he
                  obtain ⟨hk, hstt⟩ := he
                  have hf : cs + (mx a).1 ≤ R.cells ∧ ss + (mx a).2.1 ≤ R.slots := ⟨Nat.le_trans hlim.1 hR.2.2.1, Nat.le_trans hlim.2 hR.2.2.2⟩
                  rcases hk.2.2.1 with hl | ⟨host, hl⟩
                  · exact mq_g_callS C hpop (hcall _ _ _ _ _ hc) ⟨mq_callB C hR hk hl, C.2.2.2.2.1 _ hstt⟩ hlen hr4 hf hd (ih _ _ _ _ _ _ hlim.1 hlim.2 h)
                  · exact mq_g_callSN C hpop (hcall _ _ _ _ _ hc) ⟨mq_callN C hR hk (hl s C.2.2.2.2.2.2.2.1), C.2.2.2.2.1 _ hstt⟩ hlen hr4 hf hd (ih _ _ _ _ _ _ hlim.1 hlim.2 h)
              · cases h
            · cases h
          · cases h
      case ireturn =>
        obtain ⟨⟨hd, -⟩, he⟩ := ok
        split at h
        · rename_i x
          split at h
          · split at h
            · rename_i hx
              cases h
              exact hri _ _ _ _ _ _ hd (he.imp (fun z => ⟨z.1, hx⟩) id) rfl hcs hss
            · cases h
          · rename_i hne
            cases h
            exact hri _ _ _ _ _ _ hd (he.imp (fun z => absurd z.2 hne) id) rfl hcs hss
        · cases h
      case areturn =>
        obtain ⟨⟨hd, -⟩, he⟩ := ok
        split at h
        · cases h
          exact hra _ _ _ _ _ _ hd he rfl hcs hss
        · cases h
      case return_ =>
        obtain ⟨⟨hd, -⟩, he⟩ := ok
        split at h
        · cases h
          exact hrv _ _ _ _ _ hd he rfl hcs hss
        · cases h
end MQX
