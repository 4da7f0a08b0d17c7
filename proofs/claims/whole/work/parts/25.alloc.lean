/-! New cells. -/
section MQN
variable {p : Program} {l : Launch} {e : Env} {R : Room} {s : State} {m : MethodId} {args : Array Value} {below : List Frame} {meth : Method} {c : Code} {Q : State → Prop}
variable {cc : ByteArray} {nL : Nat} {own : String} {Ts : List Cond} {D : va_G} {cl : List vw_C} {tys : List (ClassId × FieldType)} {A : Nat → Prop} {X : State → Prop} {E : mEv} {ad0 : Nat × Nat → Nat} {refs0 : List (Nat × Nat)}
variable {pc k ix ci N t0 : Nat} {lv : List (Nat × mLV)} {r : List mAV} {M : mMm} {cs ss : Nat} {C1 : String} {T : u_T}
def mq_nad (ad : Nat × Nat → Nat) (z : Nat × Nat) (q0 : Nat) : Nat × Nat → Nat := fun r => if r = z then q0 else ad r
theorem mq_nad_ne {ad : Nat × Nat → Nat} {z w : Nat × Nat} {q0 : Nat} (h : w ≠ z) : mq_nad ad z q0 w = ad w := if_neg h
theorem mq_nad_at {ad : Nat × Nat → Nat} {z : Nat × Nat} {q0 : Nat} : mq_nad ad z q0 z = q0 := if_pos rfl
theorem mq_fresh {refs : List (Nat × Nat)} (hV : mq_V E M refs) : (k, M.1 k) ∉ refs := fun h => Nat.lt_irrefl _ ((hV.1 _).mp h)
theorem mq_B_new {ad : Nat × Nat → Nat} {refs : List (Nat × Nat)} {H H1 : Heap} {locs locs1 : List Loc} {q0 : Nat} {e0 : va_E} (hB : mq_B E D cl A s ad0 refs0 ad refs M H locs) (hne : k ≠ 999) (hP : va_P D cl (mq_W E ad refs M ++ [(q0, e0)]) H1) (hD : va_D A (mq_W E ad refs M ++ [(q0, e0)])) (hS : va_S A s.heap H1 locs1) (he : mq_ce E (mq_nad ad (k, M.1 k) q0) (mq_new M k) (k, M.1 k) = e0) :
    mq_B E D cl A s ad0 refs0 (mq_nad ad (k, M.1 k) q0) (refs ++ [(k, M.1 k)]) (mq_new M k) H1 locs1 := by
  have hfr := mq_fresh (k := k) hB.2.2.2.1
  have hnr : ∀ w, w ∈ refs → w ≠ (k, M.1 k) := fun w hw h => hfr (h ▸ hw)
  have hlen : (mq_W E ad refs M).length = refs.length := by rw [mq_W, List.length_map]
  refine ⟨?_, ?_, hS, ⟨?_, ?_⟩, ?_, ?_⟩
  · intro j z hz
    obtain ⟨w, hw, rfl⟩ := mq_W_inv hz
    by_cases hj : j < refs.length
    · rw [List.getElem?_append_left hj] at hw
      have hwm := List.mem_of_getElem? hw
      have h0 := hP j (ad w, mq_ce E ad M w) (by rw [List.getElem?_append_left (by rw [hlen]; exact hj)]; exact mq_W_at hw)
      rw [mq_nad_ne (hnr w hwm)]
      refine mq_at_congr (fun j' _ => ?_) (fun j' hj' => ?_) (fun j' _ => ?_) h0
      · exact congrFun (mq_cr_ne (hnr w hwm)) j'
      · have e1 : (mq_new M k).2.2.1 w.1 w.2 j' = M.2.2.1 w.1 w.2 j' := congrFun (mq_cr_ne (hnr w hwm)) j'
        rw [e1]
        cases h1 : M.2.2.1 w.1 w.2 j' with
        | none => rfl
        | some u => simp only [Option.map_some, mq_nad_ne (hnr u (hB.2.2.2.1.2 w hwm j' hj' u h1))]
      · exact congrFun (mq_cr_ne (hnr w hwm)) j'
    · rw [List.getElem?_append_right (by omega)] at hw
      have hz0 : j - refs.length < 1 := (List.getElem?_eq_some_iff.mp hw).1
      have hj0 : j = refs.length := by omega
      subst hj0
      rw [Nat.sub_self] at hw
      cases hw
      have h0 := hP refs.length (q0, e0) (by rw [List.getElem?_append_right (by omega), hlen, Nat.sub_self]; rfl)
      rw [mq_nad_at, he]
      exact h0
  · refine mq_D_same hD ?_
    rw [mq_W_fst, List.map_append, List.map_append, mq_W_fst]
    congr 1
    · exact List.map_congr_left (fun w hw => mq_nad_ne (hnr w hw))
    · simp only [List.map_cons, List.map_nil, mq_nad_at]
  · intro w
    rw [List.mem_append, List.mem_singleton, hB.2.2.2.1.1 w]
    obtain ⟨w1, w2⟩ := w
    by_cases hw : w1 = k
    · subst hw
      simp only [mq_new, if_true, Prod.mk.injEq, true_and]
      omega
    · simp only [mq_new, hw, if_false, Prod.mk.injEq, false_and, or_false]
  · intro w hw j hj u hu
    by_cases hwz : w = (k, M.1 k)
    · subst hwz
      have e1 : (mq_new M k).2.2.1 k (M.1 k) j = none := congrFun mq_cr_at j
      rw [e1] at hu
      cases hu
    · have e1 : (mq_new M k).2.2.1 w.1 w.2 j = M.2.2.1 w.1 w.2 j := congrFun (mq_cr_ne hwz) j
      rw [e1] at hu
      rcases List.mem_append.mp hw with h | h
      · exact List.mem_append_left _ (hB.2.2.2.1.2 w h j hj u hu)
      · exact absurd (List.mem_singleton.mp h) hwz
  · exact fun w hw => List.mem_append_left _ (hB.2.2.2.2.1 w hw)
  · intro w hw
    rcases hw with hw | hw
    · rw [mq_nad_ne (hnr w (hB.2.2.2.2.1 w hw))]
      exact hB.2.2.2.2.2 w (Or.inl hw)
    · rw [mq_nad_ne (by rw [hw]; intro h; exact hne (Prod.mk.inj h).1.symm)]
      exact hB.2.2.2.2.2 w (Or.inr hw)
theorem mq_new_lm {ad : Nat × Nat → Nat} {refs : List (Nat × Nat)} {q0 : Nat} (hV : mq_V E M refs) (hne : k ≠ 999) : ∀ w, mq_vr refs w → mq_nad ad (k, M.1 k) q0 w = ad w := by
  intro w hw
  rcases hw with hw | hw
  · exact mq_nad_ne (fun h => mq_fresh hV (h ▸ hw))
  · exact mq_nad_ne (by rw [hw]; intro h; exact hne (Prod.mk.inj h).1.symm)
/-- the walk goes on with the new cell -/
theorem mq_new_go {ad : Nat × Nat → Nat} {refs : List (Nat × Nat)} {H H1 : Heap} {locs locs1 : List Loc} {ls : Array Slot} {q0 : Nat} {e0 : va_E} {cs' ss' pc' : Nat} (hB : mq_B E D cl A s ad0 refs0 ad refs M H locs) (hl : lv_has ls nL (mq_lm ad lv)) (hvl : mq_vl refs lv) (hvs : mq_vs refs r) (hne : k ≠ 999) (hP : va_P D cl (mq_W E ad refs M ++ [(q0, e0)]) H1) (hD : va_D A (mq_W E ad refs M ++ [(q0, e0)])) (hS : va_S A s.heap H1 locs1) (he : mq_ce E (mq_nad ad (k, M.1 k) q0) (mq_new M k) (k, M.1 k) = e0)
    (kk : mq_G p l e R s m args below meth c Q nL E D cl A ad0 refs0 pc' lv (.inr (.inl (some (k, M.1 k))) :: r) (mq_new M k) cs' ss') : W p l e R s m args below meth c H1 locs1 cs' ss' Q (F0 m pc' ls (.ref q0 :: r.map (mq_cv ad))) := by
  have had := mq_new_lm (ad := ad) (q0 := q0) hB.2.2.2.1 hne
  have hsub : ∀ w, w ∈ refs → w ∈ refs ++ [(k, M.1 k)] := fun w hw => List.mem_append_left _ hw
  have h := kk H1 locs1 ls (mq_nad ad (k, M.1 k) q0) (refs ++ [(k, M.1 k)]) (mq_B_new hB hne hP hD hS he) (by rw [mq_lm_ad had hvl]; exact hl) (fun i w h => (hvl i w h).imp (hsub w) id) (by
    refine mq_vs_cons (fun w hw => (hvs w hw).imp (hsub w) id) (fun w hw => ?_)
    injection hw with hw
    injection hw with hw
    injection hw with hw
    rw [← hw]
    exact Or.inl (List.mem_append_right _ List.mem_cons_self))
  rw [List.map_cons, mq_st_ad had hvs] at h
  have e1 : mq_cv (mq_nad ad (k, M.1 k) q0) (.inr (.inl (some (k, M.1 k)))) = .ref q0 := by
    show Value.ref (mq_nad ad (k, M.1 k) q0 (k, M.1 k)) = _
    rw [mq_nad_at]
  rw [e1] at h
  exact h
theorem mq_g_new (C : mq_C p s m args c cc nL own Ts D cl tys A X) (hne : k ≠ 999) (hk : E.1 k = (0, ci, N)) (hc : cl[ci]? = some (C1, T, N)) (hin : ∀ w ∈ u_ws C1 T N, w ∈ Ts) (ty0 : Nat → FieldType) (hty : ∀ k, k < N → parseFieldDescriptor (T k).2.2.1 = some (ty0 k)) (hdf : ∀ j, j < N → defaultValue (ty0 j) = if E.2.1 ci j then .null else .int 0) (hcl : Jvm.Cond.classLink own ix C1 ∈ Ts) (hins : Jvm.Cond.instantiable C1 N ∈ Ts) (hini : Jvm.Cond.initialized C1 ∈ Ts) (hf : cs + 1 ≤ R.cells ∧ ss + N ≤ R.slots) (hd : decode cc pc = .ok (.new ix, 3))
    (kk : mq_G p l e R s m args below meth c Q nL E D cl A ad0 refs0 (pc + 3) lv (.inr (.inl (some (k, M.1 k))) :: r) (mq_new M k) (cs + 1) (ss + N)) : mq_G p l e R s m args below meth c Q nL E D cl A ad0 refs0 pc lv r M cs ss := by
  intro H locs ls ad refs hB hl hvl hvs
  refine va_new (fs := (List.range N).map (fun j => if E.2.1 ci j then .null else .int 0)) C.1 C.2.1 C.2.2.2.2.1 hin ty0 hty C.2.2.2.1 (C.2.2.2.2.1 _ hcl) (C.2.2.2.2.1 _ hins) (C.2.2.2.2.1 _ hini) C.2.2.2.2.2.1 hB.1 hB.2.1 hB.2.2.1 C.2.2.2.2.2.2.1 hc (fun j hj => ?_) hf.1 hf.2 hd (fun q0 H1 hP hD hS => ?_)
  · rw [hdf j hj, vp_V, List.getD_eq_getElem?_getD, mq_range_at hj]; rfl
  · refine mq_new_go hB hl hvl hvs hne hP hD hS ?_ kk
    rw [mq_ce0 (q := (k, M.1 k)) hk]
    congr 2
    apply List.map_congr_left
    intro j _
    have e1 : (mq_new M k).2.2.1 k (M.1 k) j = none := congrFun mq_cr_at j
    have e2 : (mq_new M k).2.1 k (M.1 k) j = 0 := congrFun mq_cr_at j
    simp only [mq_fv, hk, e1, e2, Option.map_none]
    rfl
theorem mq_g_newi (C : mq_C p s m args c cc nL own Ts D cl tys A X) (hne : k ≠ 999) (hk : E.1 k = (1, ci, N)) (ht : tys[t0]? = some (E.2.2 1, .int)) (hN : N ≤ 65536) (harr : Jvm.Cond.arrayClass .int ∈ Ts) (hf : cs + 1 ≤ R.cells ∧ ss + N ≤ R.slots) (hd : decode cc pc = .ok (.newarray .int, 2))
    (kk : mq_G p l e R s m args below meth c Q nL E D cl A ad0 refs0 (pc + 2) lv (.inr (.inl (some (k, M.1 k))) :: r) (mq_new M k) (cs + 1) (ss + N)) : mq_G p l e R s m args below meth c Q nL E D cl A ad0 refs0 pc lv (.inl (Int32.ofNat N) :: r) M cs ss := by
  intro H locs ls ad refs hB hl hvl hvs
  have h31 : N < 2 ^ 31 := by omega
  refine va_newa (atype := .int) (ty := .int) (n := Int32.ofNat N) (N' := N) (a0 := (N, .inl (fun _ => 0))) C.1 C.2.1 (C.2.2.2.2.1 _ harr) rfl C.2.2.2.2.2.1 hB.1 hB.2.1 hB.2.2.1 C.2.2.2.2.2.2.1 (fun _ => rfl) (nI_pos h31) (nI_clamp h31) (by show N * 4 ≤ _; omega) hf.1 hf.2 hd (fun q0 cA H1 hK' hP hD hS => ?_)
  have hcA : cA = E.2.2 1 := by
    have h1 := (hK'.2 tys.length (cA, .int) (by rw [List.getElem?_append_right (Nat.le_refl _), Nat.sub_self]; rfl)).2
    have h2 := (C.2.2.2.2.2.1.2 t0 _ ht).2
    exact Option.some.inj (h1.symm.trans h2)
  subst hcA
  refine mq_new_go hB hl (by exact hvl) (mq_vs_tl hvs) hne hP hD hS ?_ kk
  rw [mq_ceS (q := (k, M.1 k)) (.inl rfl) hk]
  have e2 : (mq_new M k).2.1 k (M.1 k) = fun _ => 0 := mq_cr_at
  rw [e2]
theorem mq_g_newb (C : mq_C p s m args c cc nL own Ts D cl tys A X) (hne : k ≠ 999) (hk : E.1 k = (4, ci, N)) (ht : tys[t0]? = some (E.2.2 4, .byte)) (hN : N ≤ 65536) (harr : Jvm.Cond.arrayClass .byte ∈ Ts) (hf : cs + 1 ≤ R.cells ∧ ss + N ≤ R.slots) (hd : decode cc pc = .ok (.newarray .byte, 2))
    (kk : mq_G p l e R s m args below meth c Q nL E D cl A ad0 refs0 (pc + 2) lv (.inr (.inl (some (k, M.1 k))) :: r) (mq_new M k) (cs + 1) (ss + N)) : mq_G p l e R s m args below meth c Q nL E D cl A ad0 refs0 pc lv (.inl (Int32.ofNat N) :: r) M cs ss := by
  intro H locs ls ad refs hB hl hvl hvs
  have h31 : N < 2 ^ 31 := by omega
  refine va_newa (atype := .byte) (ty := .byte) (n := Int32.ofNat N) (N' := N) (a0 := (N, .inl (fun _ => 0))) C.1 C.2.1 (C.2.2.2.2.1 _ harr) rfl C.2.2.2.2.2.1 hB.1 hB.2.1 hB.2.2.1 C.2.2.2.2.2.2.1 (fun _ => rfl) (nI_pos h31) (nI_clamp h31) (by show N * 1 ≤ _; omega) hf.1 hf.2 hd (fun q0 cA H1 hK' hP hD hS => ?_)
  have hcA : cA = E.2.2 4 := by
    have h1 := (hK'.2 tys.length (cA, .byte) (by rw [List.getElem?_append_right (Nat.le_refl _), Nat.sub_self]; rfl)).2
    have h2 := (C.2.2.2.2.2.1.2 t0 _ ht).2
    exact Option.some.inj (h1.symm.trans h2)
  subst hcA
  refine mq_new_go hB hl (by exact hvl) (mq_vs_tl hvs) hne hP hD hS ?_ kk
  rw [mq_ceS (q := (k, M.1 k)) (.inr (.inl rfl)) hk]
  have e2 : (mq_new M k).2.1 k (M.1 k) = fun _ => 0 := mq_cr_at
  rw [e2]
theorem mq_g_newz (C : mq_C p s m args c cc nL own Ts D cl tys A X) (hne : k ≠ 999) (hk : E.1 k = (5, ci, N)) (ht : tys[t0]? = some (E.2.2 5, .boolean)) (hN : N ≤ 65536) (harr : Jvm.Cond.arrayClass .boolean ∈ Ts) (hf : cs + 1 ≤ R.cells ∧ ss + N ≤ R.slots) (hd : decode cc pc = .ok (.newarray .boolean, 2))
    (kk : mq_G p l e R s m args below meth c Q nL E D cl A ad0 refs0 (pc + 2) lv (.inr (.inl (some (k, M.1 k))) :: r) (mq_new M k) (cs + 1) (ss + N)) : mq_G p l e R s m args below meth c Q nL E D cl A ad0 refs0 pc lv (.inl (Int32.ofNat N) :: r) M cs ss := by
  intro H locs ls ad refs hB hl hvl hvs
  have h31 : N < 2 ^ 31 := by omega
  refine va_newa (atype := .boolean) (ty := .boolean) (n := Int32.ofNat N) (N' := N) (a0 := (N, .inl (fun _ => 0))) C.1 C.2.1 (C.2.2.2.2.1 _ harr) rfl C.2.2.2.2.2.1 hB.1 hB.2.1 hB.2.2.1 C.2.2.2.2.2.2.1 (fun _ => rfl) (nI_pos h31) (nI_clamp h31) (by show N * 1 ≤ _; omega) hf.1 hf.2 hd (fun q0 cA H1 hK' hP hD hS => ?_)
  have hcA : cA = E.2.2 5 := by
    have h1 := (hK'.2 tys.length (cA, .boolean) (by rw [List.getElem?_append_right (Nat.le_refl _), Nat.sub_self]; rfl)).2
    have h2 := (C.2.2.2.2.2.1.2 t0 _ ht).2
    exact Option.some.inj (h1.symm.trans h2)
  subst hcA
  refine mq_new_go hB hl (by exact hvl) (mq_vs_tl hvs) hne hP hD hS ?_ kk
  rw [mq_ceS (q := (k, M.1 k)) (.inr (.inr rfl)) hk]
  have e2 : (mq_new M k).2.1 k (M.1 k) = fun _ => 0 := mq_cr_at
  rw [e2]
theorem mq_g_newl (C : mq_C p s m args c cc nL own Ts D cl tys A X) (hne : k ≠ 999) (hk : E.1 k = (2, ci, N)) (ht : tys[t0]? = some (E.2.2 2, .long)) (hN : N ≤ 65536) (harr : Jvm.Cond.arrayClass .long ∈ Ts) (hf : cs + 1 ≤ R.cells ∧ ss + N ≤ R.slots) (hd : decode cc pc = .ok (.newarray .long, 2))
    (kk : mq_G p l e R s m args below meth c Q nL E D cl A ad0 refs0 (pc + 2) lv (.inr (.inl (some (k, M.1 k))) :: r) (mq_new M k) (cs + 1) (ss + N)) : mq_G p l e R s m args below meth c Q nL E D cl A ad0 refs0 pc lv (.inl (Int32.ofNat N) :: r) M cs ss := by
  intro H locs ls ad refs hB hl hvl hvs
  have h31 : N < 2 ^ 31 := by omega
  refine va_newa (atype := .long) (ty := .long) (n := Int32.ofNat N) (N' := N) (a0 := (N, .inr (.inl (fun _ => 0)))) C.1 C.2.1 (C.2.2.2.2.1 _ harr) rfl C.2.2.2.2.2.1 hB.1 hB.2.1 hB.2.2.1 C.2.2.2.2.2.2.1 (fun _ => rfl) (nI_pos h31) (nI_clamp h31) (by show N * 8 ≤ _; omega) hf.1 hf.2 hd (fun q0 cA H1 hK' hP hD hS => ?_)
  have hcA : cA = E.2.2 2 := by
    have h1 := (hK'.2 tys.length (cA, .long) (by rw [List.getElem?_append_right (Nat.le_refl _), Nat.sub_self]; rfl)).2
    have h2 := (C.2.2.2.2.2.1.2 t0 _ ht).2
    exact Option.some.inj (h1.symm.trans h2)
  subst hcA
  refine mq_new_go hB hl (by exact hvl) (mq_vs_tl hvs) hne hP hD hS ?_ kk
  rw [mq_ce2 (q := (k, M.1 k)) hk]
  have e2 : (mq_new M k).2.2.2 k (M.1 k) = fun _ => 0 := mq_cr_at
  rw [e2]
theorem mq_g_newq (C : mq_C p s m args c cc nL own Ts D cl tys A X) (hne : k ≠ 999) (hk : E.1 k = (3, ci, N)) (ht : tys[t0]? = some (E.2.2 (100 + ci), .object C1)) (hN : N ≤ 65536) (hcl : Jvm.Cond.classLink own ix C1 ∈ Ts) (hao : va_AO C1 s) (hf : cs + 1 ≤ R.cells ∧ ss + N ≤ R.slots) (hd : decode cc pc = .ok (.anewarray ix, 3))
    (kk : mq_G p l e R s m args below meth c Q nL E D cl A ad0 refs0 (pc + 3) lv (.inr (.inl (some (k, M.1 k))) :: r) (mq_new M k) (cs + 1) (ss + N)) : mq_G p l e R s m args below meth c Q nL E D cl A ad0 refs0 pc lv (.inl (Int32.ofNat N) :: r) M cs ss := by
  intro H locs ls ad refs hB hl hvl hvs
  have h31 : N < 2 ^ 31 := by omega
  refine va_newq (n := Int32.ofNat N) (N' := N) C.1 C.2.1 C.2.2.2.1 (C.2.2.2.2.1 _ hcl) hao C.2.2.2.2.2.1 hB.1 hB.2.1 hB.2.2.1 C.2.2.2.2.2.2.1 (nI_pos h31) (nI_clamp h31) (by omega) hf.1 hf.2 hd (fun q0 cA H1 hK' hP hD hS => ?_)
  have hcA : cA = E.2.2 (100 + ci) := by
    have h1 := (hK'.2 tys.length (cA, .object C1) (by rw [List.getElem?_append_right (Nat.le_refl _), Nat.sub_self]; rfl)).2
    have h2 := (C.2.2.2.2.2.1.2 t0 _ ht).2
    obtain ⟨_, _, _, _, _, h1⟩ := h1
    obtain ⟨_, _, _, _, _, h2⟩ := h2
    exact Option.some.inj (h1.symm.trans h2)
  subst hcA
  refine mq_new_go hB hl (by exact hvl) (mq_vs_tl hvs) hne hP hD hS ?_ kk
  rw [mq_ce3 (q := (k, M.1 k)) hk]
  have e2 : (mq_new M k).2.2.1 k (M.1 k) = fun _ => none := mq_cr_at
  rw [e2]
  rfl
end MQN
