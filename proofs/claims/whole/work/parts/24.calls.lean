/-! Ends and calls of the machine, over the JVM's. -/
/-- how a method ends: its answer, the memory behind it at the old places, and new cells behind those -/
def mq_Qc (E : mEv) (D : va_G) (cl : List vw_C) (tys : List (ClassId × FieldType)) (A : Nat → Prop) (ad0 : Nat × Nat → Nat) (refs0 : List (Nat × Nat)) (rv : Option mLV) (M' : mMm) : Array Value → State → Outcome → State → Prop := fun _ st oc t =>
  (∃ (ad : Nat × Nat → Nat) (refs : List (Nat × Nat)), oc = .returned (rv.map (mq_cl ad)) ∧ (∀ r, r ∈ refs0 → r ∈ refs) ∧ (∀ r, mq_vr refs0 r → ad r = ad0 r) ∧ va_P D cl (mq_W E ad refs M') t.heap ∧ va_K D cl tys t ∧ va_D A (mq_W E ad refs M') ∧ mq_V E M' refs ∧ ∀ r, rv = some (.inr (some r)) → mq_vr refs r) ∧ va_F A st t
/-- how it starts -/
def mq_Pc (X : State → Prop) (E : mEv) (D : va_G) (cl : List vw_C) (tys : List (ClassId × FieldType)) (sz : Nat) (ad : Nat × Nat → Nat) (refs : List (Nat × Nat)) (as : List mLV) (M : mMm) : Array Value → State → Prop :=
  va_Pc (as.map (mq_cl ad)) (fun U => U.heap.size = sz ∧ va_P D cl (mq_W E ad refs M) U.heap ∧ va_K D cl tys U ∧ va_D (fun _ => True) (mq_W E ad refs M) ∧ X U)
/-- a method's contract at these arguments and this memory -/
def mq_Met (l : Launch) (X : State → Prop) (E : mEv) (D : va_G) (cl : List vw_C) (tys : List (ClassId × FieldType)) (y : MethodName) (ws : List Cond) (rm : Room) (mc ms : Nat) (as : List mLV) (M : mMm) (rv : Option mLV) (M' : mMm) : Prop :=
  ∀ (ad : Nat × Nat → Nat) (refs : List (Nat × Nat)) (sz : Nat), mq_V E M refs → (∀ r, (.inr (some r) : mLV) ∈ as → mq_vr refs r) → Met l y ws rm (mq_Pc X E D cl tys sz ad refs as M) (mq_Qc E D cl tys (va_A (mq_W E ad refs M) sz) ad refs rv M') mc ms (va_A (mq_W E ad refs M) sz)
theorem mq_blind {X : State → Prop} (hX : ∀ u U : State, u.WarmedH U.vm → X u → X U) {E : mEv} {D : va_G} {cl : List vw_C} {tys : List (ClassId × FieldType)} {sz : Nat} {ad : Nat × Nat → Nat} {refs : List (Nat × Nat)} {as : List mLV} {M : mMm} : FrameBlind (mq_Pc X E D cl tys sz ad refs as M) := by
  intro a U g mk q
  obtain ⟨q0, q1, qP, qK, qD, qX⟩ := q
  exact ⟨q0, q1, qP, va_K.moved (u := U) (U := U.calling g mk a) (Vm.Alike.refl U.vm) qK, qD, hX U _ (State.WarmedH.refl U) qX⟩
theorem mq_pop_spec : ∀ (n : Nat) (st : List mAV) (acc as : List mLV) (r : List mAV), mq_pop n st acc = some (as, r) → ∃ pre : List mLV, as = pre ++ acc ∧ pre.length = n ∧ st = (pre.map mq_toA).reverse ++ r
  | 0, st, acc, as, r, h => by
    simp only [mq_pop, Option.some.injEq, Prod.mk.injEq] at h
    exact ⟨[], by rw [← h.1]; rfl, rfl, by rw [← h.2]; rfl⟩
  | n + 1, [], acc, as, r, h => by simp [mq_pop] at h
  | n + 1, .inl x :: st, acc, as, r, h => by
    simp only [mq_pop] at h
    obtain ⟨pre, h1, h2, h3⟩ := mq_pop_spec n st _ as r h
    refine ⟨pre ++ [.inl x], by rw [h1]; simp, by simp [h2], by rw [h3]; simp [mq_toA]⟩
  | n + 1, .inr (.inl q) :: st, acc, as, r, h => by
    simp only [mq_pop] at h
    obtain ⟨pre, h1, h2, h3⟩ := mq_pop_spec n st _ as r h
    refine ⟨pre ++ [.inr q], by rw [h1]; simp, by simp [h2], by rw [h3]; simp [mq_toA]⟩
  | n + 1, .inr (.inr z) :: st, acc, as, r, h => by simp [mq_pop] at h
theorem mq_pop_st {n : Nat} {st r : List mAV} {as : List mLV} (h : mq_pop n st [] = some (as, r)) : as.length = n ∧ st = (as.map mq_toA).reverse ++ r := by
  obtain ⟨pre, h1, h2, h3⟩ := mq_pop_spec n st [] as r h
  rw [List.append_nil] at h1
  subst h1
  exact ⟨h2, h3⟩
section MQC
variable {p : Program} {l : Launch} {e : Env} {R : Room} {s : State} {m : MethodId} {args : Array Value} {below : List Frame} {meth : Method} {c : Code} {Q : State → Prop}
variable {cc : ByteArray} {nL : Nat} {own : String} {Ts : List Cond} {D : va_G} {cl : List vw_C} {tys : List (ClassId × FieldType)} {A : Nat → Prop} {X : State → Prop} {E : mEv} {ad0 : Nat × Nat → Nat} {refs0 : List (Nat × Nat)}
variable {pc tgt i k b ix ci N n t0 : Nat} {lv : List (Nat × mLV)} {r st : List mAV} {M M' : mMm} {cs ss mc ms : Nat} {x y : Int32} {q : Nat × Nat} {rv : Option mLV}
theorem mq_r_int (C : mq_C p s m args c cc nL own Ts D cl tys A X) {ty : FieldType} (hr : meth.sig.returnType = some ty) (hn : narrow ty (.int x) = .int x) (hlocks : meth.locks = false) (hcs : cs ≤ mc) (hss : ss ≤ ms) (hd : decode cc pc = .ok (.ireturn, 1)) :
    mq_G p l e R s m args below meth c (MQ below (mq_Qc E D cl tys A ad0 refs0 (some (.inl x)) M) args s mc ms A) nL E D cl A ad0 refs0 pc lv [.inl x] M cs ss := by
  intro H locs ls ad refs hB hl hvl hvs
  refine W.widen hcs hss ?_
  exact W.zret C.1 C.2.1 hr hn (fun t ht hW => ⟨⟨ad, refs, rfl, hB.2.2.2.2.1, hB.2.2.2.2.2, by rw [ht]; exact hB.1, va_K.moved hW.alike C.2.2.2.2.2.1, hB.2.1, hB.2.2.2.1, fun r h => by cases h⟩, hB.2.2.1.F ht⟩) hB.2.2.1.2.2 hd hlocks
theorem mq_r_void (C : mq_C p s m args c cc nL own Ts D cl tys A X) (hr : meth.sig.returnType = none) (hlocks : meth.locks = false) (hcs : cs ≤ mc) (hss : ss ≤ ms) (hd : decode cc pc = .ok (.return_, 1)) :
    mq_G p l e R s m args below meth c (MQ below (mq_Qc E D cl tys A ad0 refs0 none M) args s mc ms A) nL E D cl A ad0 refs0 pc lv [] M cs ss := by
  intro H locs ls ad refs hB hl hvl hvs
  refine W.widen hcs hss ?_
  exact W.vret C.1 C.2.1 hr (fun t ht hW => ⟨⟨ad, refs, rfl, hB.2.2.2.2.1, hB.2.2.2.2.2, by rw [ht]; exact hB.1, va_K.moved hW.alike C.2.2.2.2.2.1, hB.2.1, hB.2.2.2.1, fun r h => by cases h⟩, hB.2.2.1.F ht⟩) hB.2.2.1.2.2 hd hlocks
theorem mq_r_ref (C : mq_C p s m args c cc nL own Ts D cl tys A X) {w : mRf} {ty : FieldType} (hr : meth.sig.returnType = some ty) (hrt : (∃ n, ty = .object n) ∨ ∃ t, ty = .array t) (hlocks : meth.locks = false) (hcs : cs ≤ mc) (hss : ss ≤ ms) (hd : decode cc pc = .ok (.areturn, 1)) :
    mq_G p l e R s m args below meth c (MQ below (mq_Qc E D cl tys A ad0 refs0 (some (.inr w)) M) args s mc ms A) nL E D cl A ad0 refs0 pc lv [.inr (.inl w)] M cs ss := by
  intro H locs ls ad refs hB hl hvl hvs
  refine W.widen hcs hss ?_
  exact W.aret C.1 C.2.1 hr hrt (va_rf_or _) (fun t ht hW => ⟨⟨ad, refs, rfl, hB.2.2.2.2.1, hB.2.2.2.2.2, by rw [ht]; exact hB.1, va_K.moved hW.alike C.2.2.2.2.2.1, hB.2.1, hB.2.2.2.1, fun r h => by cases h; exact hvs _ List.mem_cons_self⟩, hB.2.2.1.F ht⟩) hB.2.2.1.2.2 hd hlocks
/-- behind a call -/
theorem mq_callg {H H0 : Heap} {locs : List Loc} {cells slots : Nat} {ls : Array Slot} {rest st0 : List Value} {a : Array Value} {A0 A1 : Nat → Prop} {free : Addr → Prop} {ad : Nat × Nat → Nat} {refs : List (Nat × Nat)} (hr : va_Run p l e R s m args below meth c H locs cells slots mc ms (F0 m pc ls st0) rest (mq_Qc E D cl tys A1 ad refs rv M' a) free) (hS : va_S A0 H0 H locs) (hA : ∀ q, q < H.size → A1 q → A0 q) (hf : ∀ q, free q → A0 q)
    (kk : ∀ (ad' : Nat × Nat → Nat) (refs' : List (Nat × Nat)) (t : State) (H1 : Heap) (locs1 : List Loc), t.heap = H1 → s.vm.Alike t.vm → (∀ r, r ∈ refs → r ∈ refs') → (∀ r, mq_vr refs r → ad' r = ad r) → va_P D cl (mq_W E ad' refs' M') H1 → va_D A1 (mq_W E ad' refs' M') → mq_V E M' refs' → (∀ r, rv = some (.inr (some r)) → mq_vr refs' r) → H.size ≤ H1.size → va_S A0 H0 H1 locs1 → W p l e R s m args below meth c H1 locs1 (cells + mc) (slots + ms) Q (F0 m (pc + 3) ls ((rv.map (mq_cl ad')).toList ++ rest))) : W p l e R s m args below meth c H locs cells slots Q (F0 m pc ls st0) := by
  intro T hT X
  obtain ⟨v, st₀, t, T', L, h0, X', hL, e1, e2, ⟨⟨ad', refs', hv, g1, g2, g3, g4, g5, g6, g7⟩, hz, hk⟩, st⟩ := hr T hT X
  injection hv with hv
  subst hv
  rw [h0] at hz hk
  obtain ⟨t2, a1, b1⟩ := kk ad' refs' t T'.heap (locs ++ L) e1.symm (by rw [← e2]; exact X'.warmed.alike) g1 g2 (by rw [e1]; exact g3) g5 g6 g7 (by rw [e1]; exact hz)
    ⟨Nat.le_trans hS.1 (by rw [e1]; exact hz), fun q h1 h2 => by rw [e1, hk q (Nat.lt_of_lt_of_le h1 hS.1) (fun z => h2 (hA q (Nat.lt_of_lt_of_le h1 hS.1) z))]; exact hS.2.1 q h1 h2, fun q hq => by
      rcases List.mem_append.mp hq with h | h
      · exact hS.2.2 q h
      · exact hf _ (hL q h)⟩ T' rfl X'
  exact ⟨t2, st t2 a1, b1⟩
theorem mq_lm_ad {ad ad' : Nat × Nat → Nat} {refs : List (Nat × Nat)} (h : ∀ r, mq_vr refs r → ad' r = ad r) (hv : mq_vl refs lv) : mq_lm ad' lv = mq_lm ad lv := by
  unfold mq_lm
  apply List.map_congr_left
  intro z hz
  obtain ⟨i, v⟩ := z
  rcases v with x | (_ | w)
  · rfl
  · rfl
  · have e := h w (hv i w hz)
    simp only [mq_cl, Option.map_some, e]
theorem mq_st_ad {ad ad' : Nat × Nat → Nat} {refs : List (Nat × Nat)} (h : ∀ r, mq_vr refs r → ad' r = ad r) (hv : mq_vs refs st) : st.map (mq_cv ad') = st.map (mq_cv ad) := by
  apply List.map_congr_left
  intro z hz
  rcases z with x | ((_ | w) | x)
  · rfl
  · rfl
  · have e := h w (hv w hz)
    simp only [mq_cv, Option.map_some, e]
  · rfl
theorem mq_psh_map (ad : Nat × Nat → Nat) : (mq_psh rv r).map (mq_cv ad) = (rv.map (mq_cl ad)).toList ++ r.map (mq_cv ad) := by
  rcases rv with _ | v
  · rfl
  · simp only [mq_psh, List.map_cons, mq_cv_toA, Option.map_some, Option.toList_some, List.singleton_append]
theorem mq_vr_mono {refs refs' : List (Nat × Nat)} (h : ∀ r, r ∈ refs → r ∈ refs') {w : Nat × Nat} (hw : mq_vr refs w) : mq_vr refs' w := hw.imp (h w) id
/-- a call's row out of its run at every place -/
theorem mq_g_call (C : mq_C p s m args c cc nL own Ts D cl tys A X) {as : List mLV} (hpop : mq_pop b st [] = some (as, r))
    (hrun : ∀ (H : Heap) (locs : List Loc) (ls : Array Slot) (ad : Nat × Nat → Nat) (refs : List (Nat × Nat)), mq_B E D cl A s ad0 refs0 ad refs M H locs → lv_has ls nL (mq_lm ad lv) → (∀ r, (.inr (some r) : mLV) ∈ as → mq_vr refs r) → ∃ av : Array Value, va_Run p l e R s m args below meth c H locs cs ss mc ms (F0 m pc ls ((as.map (mq_cl ad)).reverse ++ r.map (mq_cv ad))) (r.map (mq_cv ad)) (mq_Qc E D cl tys (va_A (mq_W E ad refs M) H.size) ad refs rv M' av) (va_A (mq_W E ad refs M) H.size))
    (kk : mq_G p l e R s m args below meth c Q nL E D cl A ad0 refs0 (pc + 3) lv (mq_psh rv r) M' (cs + mc) (ss + ms)) : mq_G p l e R s m args below meth c Q nL E D cl A ad0 refs0 pc lv st M cs ss := by
  intro H locs ls ad refs hB hl hvl hvs
  obtain ⟨hlen, hst⟩ := mq_pop_st hpop
  have hva : ∀ w, (.inr (some w) : mLV) ∈ as → mq_vr refs w := fun w hw => hvs w (by
    rw [hst]
    exact List.mem_append_left _ (List.mem_reverse.mpr (List.mem_map.mpr ⟨_, hw, rfl⟩)))
  have hvr : mq_vs refs r := fun w hw => hvs w (by rw [hst]; exact List.mem_append_right _ hw)
  obtain ⟨av, hR⟩ := hrun H locs ls ad refs hB hl hva
  have hmap : st.map (mq_cv ad) = (as.map (mq_cl ad)).reverse ++ r.map (mq_cv ad) := by
    rw [hst, List.map_append, List.map_reverse, List.map_map]
    congr 2
    apply List.map_congr_left
    intro v _
    exact mq_cv_toA ad v
  rw [hmap]
  have hAA : ∀ q, va_A (mq_W E ad refs M) H.size q → A q := by
    intro q hq
    rcases hq with ⟨k, e, hk⟩ | hq
    · exact hB.2.1.2 k _ hk
    · exact C.2.2.2.2.2.2.1 q (Nat.le_trans hB.2.2.1.1 hq)
  refine mq_callg hR hB.2.2.1 (fun q _ h => hAA q h) hAA (fun ad' refs' t H1 locs1 ht hvm hsub had hP hD hV hrv hz hS => ?_)
  have hw := kk H1 locs1 ls ad' refs' ⟨hP, hD.weaken (fun _ _ _ h => hAA _ h), hS, hV, fun w hw => hsub w (hB.2.2.2.2.1 w hw), fun w hw => (had w (mq_vr_mono hB.2.2.2.2.1 hw)).trans (hB.2.2.2.2.2 w hw)⟩ (by rw [mq_lm_ad had hvl]; exact hl) (fun i w h => mq_vr_mono hsub (hvl i w h)) (by
    intro w hw
    rcases rv with _ | v
    · exact mq_vr_mono hsub (hvr w hw)
    · rcases List.mem_cons.mp hw with h | h
      · refine hrv w ?_
        rcases v with x | u
        · cases h
        · simp only [mq_toA, Sum.inr.injEq, Sum.inl.injEq] at h
          rw [← h]
      · exact mq_vr_mono hsub (hvr w h))
  rw [mq_psh_map, mq_st_ad had hvr] at hw
  exact hw
/-- what a callee's start asks, at the call -/
theorem mq_pre {H : Heap} {locs : List Loc} {ad : Nat × Nat → Nat} {refs : List (Nat × Nat)} {as : List mLV} (C : mq_C p s m args c cc nL own Ts D cl tys A X) (hB : mq_B E D cl A s ad0 refs0 ad refs M H locs) : ∀ U : State, U.heap = H → s.WarmedH U.vm → mq_Pc X E D cl tys H.size ad refs as M (as.map (mq_cl ad)).toArray U :=
  fun U hU hW => ⟨rfl, by rw [hU], by rw [hU]; exact hB.1, va_K.moved hW.alike C.2.2.2.2.2.1, hB.2.1.weaken (fun _ _ _ _ => trivial), C.2.2.2.2.2.2.2.2 s U hW C.2.2.2.2.2.2.2.1⟩
theorem mq_sum (ad : Nat × Nat → Nat) : ∀ r : List mAV, ((r.map (mq_cv ad)).map fun v => v.category).sum ≤ mq_rl r
  | [] => Nat.le_refl _
  | .inl x :: r => by
    have h := mq_sum ad r
    have hc : (mq_cv ad (.inl x)).category = 1 := mq_cv_cat ad _ rfl
    simp only [List.map_cons, List.sum_cons, mq_rl, hc]
    omega
  | .inr (.inl q) :: r => by
    have h := mq_sum ad r
    have hc : (mq_cv ad (.inr (.inl q))).category = 1 := mq_cv_cat ad _ rfl
    simp only [List.map_cons, List.sum_cons, mq_rl, hc]
    omega
  | .inr (.inr z) :: r => by
    have h := mq_sum ad r
    have hc : (mq_cv ad (.inr (.inr z))).category ≤ 2 := by rcases lv_cat (mq_cv ad (.inr (.inr z))) with h | h <;> omega
    simp only [List.map_cons, List.sum_cons, mq_rl]
    omega
theorem mq_room {ad : Nat × Nat → Nat} {ls : Array Slot} {st0 : List Value} (h : mq_rl r ≤ 8) : 2 * (F0 m pc ls st0).monitorRoom + ((r.map (mq_cv ad)).map fun v => v.category).sum ≤ 8 := lv_room (by have := mq_sum ad r; omega)
variable {yM : MethodName} {bytes : ByteArray} {maxL nA : Nat} {ret : Option FieldType} {ws : List Cond} {rm : Room} {C1 : String} {qC : vw_C} {as : List mLV}
theorem mq_g_callV (C : mq_C p s m args c cc nL own Ts D cl tys A X) (h9 : (E.1 999).1 = 9) (hpop : mq_pop b st [] = some (.inr (some q) :: as, r)) (hk : E.1 q.1 = (0, ci, N)) (hc : cl[ci]? = some qC) (hM : mq_Met l X E D cl tys yM ws rm mc ms (.inr (some q) :: as) M rv M') (cw : CallW R s args own qC.1 ix yM bytes maxL ret ws rm mc ms nA) (hn : as.length = nA) (hr4 : mq_rl r ≤ 8) (hf : cs + mc ≤ R.cells ∧ ss + ms ≤ R.slots) (hd : decode cc pc = .ok (.invokevirtual ix, 3))
    (kk : mq_G p l e R s m args below meth c Q nL E D cl A ad0 refs0 (pc + 3) lv (mq_psh rv r) M' (cs + mc) (ss + ms)) : mq_G p l e R s m args below meth c Q nL E D cl A ad0 refs0 pc lv st M cs ss := by
  refine mq_g_call C hpop (fun H locs ls ad refs hB hl hva => ⟨(Value.ref (ad q) :: as.map (mq_cl ad)).toArray, ?_⟩) kk
  have hm : q ∈ refs := mq_in h9 (hva q List.mem_cons_self) hk (Nat.ne_of_beq_eq_false rfl)
  obtain ⟨j, hj⟩ := List.getElem?_of_mem hm
  have he := mq_W_at (E := E) (ad := ad) (M := M) hj
  rw [mq_ce0 hk] at he
  have hstk : (((.inr (some q) : mLV) :: as).map (mq_cl ad)).reverse ++ r.map (mq_cv ad) = (as.map (mq_cl ad)).reverse ++ .ref (ad q) :: r.map (mq_cv ad) := by
    rw [List.map_cons, List.reverse_cons, List.append_assoc]; rfl
  exact va_runV (b := ad q) (As := as.map (mq_cl ad)) (nL := nL) ⟨C.1, C.2.1, C.2.2.1, C.2.2.2.1, C.2.2.2.2.1⟩ (hM ad refs H.size hB.2.2.2.1 hva) cw ⟨mq_blind C.2.2.2.2.2.2.2.2, va_recv C.2.2.2.2.2.1 hB.1 hc he, mq_pre C hB⟩ rfl (by rw [List.length_map, hn]) hl.1 hstk (mq_room hr4) hd hf
theorem mq_g_callS (C : mq_C p s m args c cc nL own Ts D cl tys A X) (hpop : mq_pop b st [] = some (as, r)) (hM : mq_Met l X E D cl tys yM ws rm mc ms as M rv M') (cw : CallB R s args own ix yM bytes maxL ret ws rm mc ms nA ∧ (Jvm.Cond.static yM).before args s = true) (hn : as.length = nA) (hr4 : mq_rl r ≤ 8) (hf : cs + mc ≤ R.cells ∧ ss + ms ≤ R.slots) (hd : decode cc pc = .ok (.invokestatic ix, 3))
    (kk : mq_G p l e R s m args below meth c Q nL E D cl A ad0 refs0 (pc + 3) lv (mq_psh rv r) M' (cs + mc) (ss + ms)) : mq_G p l e R s m args below meth c Q nL E D cl A ad0 refs0 pc lv st M cs ss := by
  refine mq_g_call C hpop (fun H locs ls ad refs hB hl hva => ⟨(as.map (mq_cl ad)).toArray, ?_⟩) kk
  exact va_runS (As := as.map (mq_cl ad)) (nL := nL) ⟨C.1, C.2.1, C.2.2.1, C.2.2.2.1, C.2.2.2.2.1⟩ (hM ad refs H.size hB.2.2.2.1 hva) cw ⟨mq_blind C.2.2.2.2.2.2.2.2, mq_pre C hB⟩ rfl (by rw [List.length_map, hn]) hl.1 rfl (mq_room hr4) hd hf
theorem mq_g_callI (C : mq_C p s m args c cc nL own Ts D cl tys A X) (hpop : mq_pop b st [] = some (.inr (some q) :: as, r)) (hM : mq_Met l X E D cl tys yM ws rm mc ms (.inr (some q) :: as) M rv M') (cw : CallB R s args own ix yM bytes maxL none ws rm mc ms nA ∧ yM.name = "<init>" ∧ (Jvm.Cond.instanceMethod yM).before args s = true) (hn : as.length = nA) (hr4 : mq_rl r ≤ 8) (hf : cs + mc ≤ R.cells ∧ ss + ms ≤ R.slots) (hd : decode cc pc = .ok (.invokespecial ix, 3))
    (kk : mq_G p l e R s m args below meth c Q nL E D cl A ad0 refs0 (pc + 3) lv (mq_psh rv r) M' (cs + mc) (ss + ms)) : mq_G p l e R s m args below meth c Q nL E D cl A ad0 refs0 pc lv st M cs ss := by
  refine mq_g_call C hpop (fun H locs ls ad refs hB hl hva => ⟨(Value.ref (ad q) :: as.map (mq_cl ad)).toArray, ?_⟩) kk
  have hstk : (((.inr (some q) : mLV) :: as).map (mq_cl ad)).reverse ++ r.map (mq_cv ad) = (as.map (mq_cl ad)).reverse ++ .ref (ad q) :: r.map (mq_cv ad) := by
    rw [List.map_cons, List.reverse_cons, List.append_assoc]; rfl
  exact va_runI (b := ad q) (As := as.map (mq_cl ad)) (nL := nL) ⟨C.1, C.2.1, C.2.2.1, C.2.2.2.1, C.2.2.2.2.1⟩ (hM ad refs H.size hB.2.2.2.1 hva) cw ⟨mq_blind C.2.2.2.2.2.2.2.2, mq_pre C hB⟩ rfl (by rw [List.length_map, hn]) hl.1 hstk (mq_room hr4) hd hf
theorem mq_g_callSN {host : String} (C : mq_C p s m args c cc nL own Ts D cl tys A X) (hpop : mq_pop b st [] = some (as, r)) (hM : mq_Met l X E D cl tys yM ws rm mc ms as M rv M') (cw : va_CN R s args own ix yM host bytes maxL ret ws rm mc ms nA ∧ (Jvm.Cond.static yM).before args s = true) (hn : as.length = nA) (hr4 : mq_rl r ≤ 8) (hf : cs + mc ≤ R.cells ∧ ss + ms ≤ R.slots) (hd : decode cc pc = .ok (.invokestatic ix, 3))
    (kk : mq_G p l e R s m args below meth c Q nL E D cl A ad0 refs0 (pc + 3) lv (mq_psh rv r) M' (cs + mc) (ss + ms)) : mq_G p l e R s m args below meth c Q nL E D cl A ad0 refs0 pc lv st M cs ss := by
  refine mq_g_call C hpop (fun H locs ls ad refs hB hl hva => ⟨(as.map (mq_cl ad)).toArray, ?_⟩) kk
  exact va_runSN (As := as.map (mq_cl ad)) (nL := nL) ⟨C.1, C.2.1, C.2.2.1, C.2.2.2.1, C.2.2.2.2.1⟩ (hM ad refs H.size hB.2.2.2.1 hva) ⟨cw.1, cw.2, trivial⟩ ⟨mq_blind C.2.2.2.2.2.2.2.2, mq_pre C hB⟩ rfl (by rw [List.length_map, hn]) hl.1 rfl (mq_room hr4) hd hf
theorem mq_g_callIN {host : String} (C : mq_C p s m args c cc nL own Ts D cl tys A X) (hpop : mq_pop b st [] = some (.inr (some q) :: as, r)) (hM : mq_Met l X E D cl tys yM ws rm mc ms (.inr (some q) :: as) M rv M') (cw : va_CN R s args own ix yM host bytes maxL none ws rm mc ms nA ∧ yM.name = "<init>" ∧ (Jvm.Cond.instanceMethod yM).before args s = true) (hn : as.length = nA) (hr4 : mq_rl r ≤ 8) (hf : cs + mc ≤ R.cells ∧ ss + ms ≤ R.slots) (hd : decode cc pc = .ok (.invokespecial ix, 3))
    (kk : mq_G p l e R s m args below meth c Q nL E D cl A ad0 refs0 (pc + 3) lv (mq_psh rv r) M' (cs + mc) (ss + ms)) : mq_G p l e R s m args below meth c Q nL E D cl A ad0 refs0 pc lv st M cs ss := by
  refine mq_g_call C hpop (fun H locs ls ad refs hB hl hva => ⟨(Value.ref (ad q) :: as.map (mq_cl ad)).toArray, ?_⟩) kk
  have hstk : (((.inr (some q) : mLV) :: as).map (mq_cl ad)).reverse ++ r.map (mq_cv ad) = (as.map (mq_cl ad)).reverse ++ .ref (ad q) :: r.map (mq_cv ad) := by
    rw [List.map_cons, List.reverse_cons, List.append_assoc]; rfl
  exact va_runIN (b := ad q) (As := as.map (mq_cl ad)) (nL := nL) ⟨C.1, C.2.1, C.2.2.1, C.2.2.2.1, C.2.2.2.2.1⟩ (hM ad refs H.size hB.2.2.2.1 hva) cw ⟨mq_blind C.2.2.2.2.2.2.2.2, mq_pre C hB⟩ rfl (by rw [List.length_map, hn]) hl.1 hstk (mq_room hr4) hd hf
theorem mq_g_obj (C : mq_C p s m args c cc nL own Ts D cl tys A X) (hlink : Jvm.Cond.methodLink own ix objectInit ∈ Ts) (hinst : Jvm.Cond.instanceMethod objectInit ∈ Ts) (hcode : Jvm.Cond.code objectInit ⟨#[0xb1]⟩ 1 none ∈ Ts) (hr4 : mq_rl r ≤ 8) (hR : 1 ≤ R.frames ∧ 20 ≤ R.locals) (hd : decode cc pc = .ok (.invokespecial ix, 3))
    (kk : mq_G p l e R s m args below meth c Q nL E D cl A ad0 refs0 (pc + 3) lv r M cs ss) : mq_G p l e R s m args below meth c Q nL E D cl A ad0 refs0 pc lv (.inr (.inl (some q)) :: r) M cs ss := by
  intro H locs ls ad refs hB hl hvl hvs
  refine W.objInit (rest := r.map (mq_cv ad)) (a := ad q) C.1 C.2.1 C.2.2.2.1 (C.2.2.2.2.1 _ hlink) (C.2.2.2.2.1 _ hinst) (C.2.2.2.2.1 _ hcode) rfl (by rw [C.2.2.1]; exact hl.1) rfl hd hR.1 (by have := mq_room (m := m) (pc := pc) (ad := ad) (ls := ls) (st0 := []) hr4; show 2 * 0 + _ + 12 ≤ _; have h2 : 2 * 0 + ((r.map (mq_cv ad)).map fun v => v.category).sum ≤ 8 := this; omega) ?_
  exact W.eq (g2 := F0 m (pc + 3) ls (r.map (mq_cv ad))) rfl (kk H locs ls ad refs hB hl hvl (mq_vs_tl hvs))
theorem mq_g_min (C : mq_C p s m args c cc nL own Ts D cl tys A X) (h1 : Jvm.Cond.methodLink own ix Lib.Math.min.name ∈ Ts) (h2 : Jvm.Cond.static Lib.Math.min.name ∈ Ts) (h3 : Jvm.Cond.initialized "java/lang/Math" ∈ Ts) (h4 : Jvm.Cond.code Lib.Math.min.name Lib.Math.min.code 2 (some .int) ∈ Ts) (hr4 : mq_rl r ≤ 8) (hR : 1 ≤ R.frames ∧ 21 ≤ R.locals) (hf : cs ≤ R.cells ∧ ss ≤ R.slots) (hd : decode cc pc = .ok (.invokestatic ix, 3))
    (kk : mq_G p l e R s m args below meth c Q nL E D cl A ad0 refs0 (pc + 3) lv (.inl (if y < x then y else x) :: r) M cs ss) : mq_G p l e R s m args below meth c Q nL E D cl A ad0 refs0 pc lv (.inl y :: .inl x :: r) M cs ss := by
  intro H locs ls ad refs hB hl hvl hvs
  exact va_mmin (rest := r.map (mq_cv ad)) C.1 C.2.1 (by rw [C.2.2.1]; exact hl.1.symm) C.2.2.2.1 (C.2.2.2.2.1 _ h1) (C.2.2.2.2.1 _ h2) (C.2.2.2.2.1 _ h3) (C.2.2.2.2.1 _ h4) hR.1 (by have := mq_sum ad r; omega) hf.1 hf.2 hd (kk H locs ls ad refs hB hl hvl (mq_vs_int (mq_vs_tl (mq_vs_tl hvs))))
theorem mq_g_sld (C : mq_C p s m args c cc nL own Ts D cl tys A X) {L : Nat} {xs : Nat → Int32} (hX : va_X (ad0 mq_sr) L xs s s.heap ∧ ad0 mq_sr < s.heap.size ∧ ¬ A (ad0 mq_sr)) (hi : vp_in x L) (hd : decode cc pc = .ok (.iaload, 1))
    (kk : mq_G p l e R s m args below meth c Q nL E D cl A ad0 refs0 (pc + 1) lv (.inl (xs x.toNatClampNeg) :: r) M cs ss) : mq_G p l e R s m args below meth c Q nL E D cl A ad0 refs0 pc lv (.inl x :: .inr (.inl (some mq_sr)) :: r) M cs ss := by
  intro H locs ls ad refs hB hl hvl hvs
  have had : ad mq_sr = ad0 mq_sr := hB.2.2.2.2.2 mq_sr (Or.inr rfl)
  have h := va_sld (ls := ls) (rest := r.map (mq_cv ad)) C.1 C.2.1 hX.1 hX.2.1 hX.2.2 hB.2.2.1 hi hd (kk H locs ls ad refs hB hl hvl (mq_vs_int (mq_vs_tl (mq_vs_tl hvs))))
  rw [← had] at h
  exact h
theorem mq_g_slen (C : mq_C p s m args c cc nL own Ts D cl tys A X) {L : Nat} {xs : Nat → Int32} (hX : va_X (ad0 mq_sr) L xs s s.heap ∧ ad0 mq_sr < s.heap.size ∧ ¬ A (ad0 mq_sr)) (hd : decode cc pc = .ok (.arraylength, 1))
    (kk : mq_G p l e R s m args below meth c Q nL E D cl A ad0 refs0 (pc + 1) lv (.inl (Int32.ofNat L) :: r) M cs ss) : mq_G p l e R s m args below meth c Q nL E D cl A ad0 refs0 pc lv (.inr (.inl (some mq_sr)) :: r) M cs ss := by
  intro H locs ls ad refs hB hl hvl hvs
  have had : ad mq_sr = ad0 mq_sr := hB.2.2.2.2.2 mq_sr (Or.inr rfl)
  have h := va_slen (ls := ls) (rest := r.map (mq_cv ad)) C.1 C.2.1 hX.1 hX.2.1 hX.2.2 hB.2.2.1 hd (kk H locs ls ad refs hB hl hvl (mq_vs_int (mq_vs_tl hvs)))
  rw [← had] at h
  exact h
end MQC
