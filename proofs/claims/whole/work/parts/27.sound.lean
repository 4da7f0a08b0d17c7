/-! Every method by its number: what the machine answers at depth d is its contract. -/
theorem mq_lv_args (ad : Nat × Nat → Nat) : ∀ (as : List mLV) (i : Nat), lv_args i (as.map (mq_cl ad)) = mq_lm ad (mq_en i as)
  | [], _ => rfl
  | v :: r, i => by
    have h := mq_lv_args ad r (i + 1)
    simp only [List.map_cons, lv_args, mq_cl_cat, mq_en, mq_lm] at h ⊢
    rw [if_neg (by decide), h]
theorem mq_sl_len (ad : Nat × Nat → Nat) : ∀ as : List mLV, (lg_sl (as.map (mq_cl ad))).length = as.length
  | [] => rfl
  | v :: r => by
    have h := mq_sl_len ad r
    simp only [lg_sl, List.map_cons, List.flatMap_cons, mq_cl_cat, List.length_append, List.length_cons] at h ⊢
    rw [if_neg (by decide), h]
    simp only [List.length_cons, List.length_nil]
    omega
theorem mq_en_mem {as : List mLV} {v : mLV} : ∀ {i j : Nat}, (j, v) ∈ mq_en i as → v ∈ as := by
  induction as with
  | nil => intro i j h; cases h
  | cons w r ih =>
    intro i j h
    rcases List.mem_cons.mp h with h | h
    · rw [(Prod.mk.inj h).2]; exact List.mem_cons_self
    · exact List.mem_cons_of_mem _ (ih h)
/-- a method's own rows are in order -/
def mq_okm (cl : List vw_C) (tys : List (ClassId × FieldType)) (E : mEv) (Z : mCe) (sw : Nat → List (Int32 × Nat)) (mx : Nat → Nat × Nat × Nat) (X : State → Prop) (mi : Nat) (code : List mEn) : Prop :=
  plainName (Z.1 mi).cls = true ∧ (code.all fun en => en.2.2.2.2.2.1 != 8) = true ∧ ∀ en ∈ code, mq_ok (Z.2.1 mi) (Z.2.2.1 mi) (Z.1 mi).cls (mq_ws Z mi) cl tys E Z sw mx (decide ((Z.1 mi).name = "<init>")) (Z.2.2.2.1 mi) X en
set_option maxHeartbeats 4000000 in
theorem mq_sound {l : Launch} {E : mEv} {D : va_G} {cl : List vw_C} {tys : List (ClassId × FieldType)} {Z : mCe} {sw : Nat → List (Int32 × Nat)} {hn : Nat → Nat → Option Nat} {mx : Nat → Nat × Nat × Nat} {X : State → Prop} {cd : Nat → List mEn} {F : Nat}
    (hXs : ∀ u U : State, u.WarmedH U.vm → X u → X U) (h9 : (E.1 999).1 = 9) {tI tL tB tZ : Nat} (htI : tys[tI]? = some (E.2.2 1, .int)) (htL : tys[tL]? = some (E.2.2 2, .long)) (htB : tys[tB]? = some (E.2.2 4, .byte)) (htZ : tys[tZ]? = some (E.2.2 5, .boolean))
    (htQ : ∀ k, (E.1 k).1 = 3 → ∃ (C1 : String) (T : u_T) (N t0 : Nat), E.1 (E.1 k).2.1 = (0, (E.1 k).2.1, N) ∧ cl[(E.1 k).2.1]? = some (C1, T, N) ∧ tys[t0]? = some (E.2.2 (100 + (E.1 k).2.1), .object C1))
    (htO : ∀ k, (E.1 k).1 = 0 → (E.1 k).2.1 = k) (hnh : ∀ q w, hn q w = none)
    (hok : ∀ mi, cd mi ≠ [] → mq_okm cl tys E Z sw mx X mi (cd mi)) :
    ∀ (d mi : Nat) (as : List mLV) (M : mMm) (rv : Option mLV) (M' : mMm), mq_ex E.1 sw hn mx Z.2.2.1 cd F d mi as M = some (.inl rv, M') → mq_Met l X E D cl tys (Z.1 mi) (mq_ws Z mi) (mq_rm mx d mi) (mx mi).1 (mx mi).2.1 as M rv M' := by
  intro d
  induction d with
  | zero => intro mi as M rv M' h; cases h
  | succ d ih =>
    intro mi as M rv M' h ad refs sz hV hva
    have h : (if as.length ≤ Z.2.2.1 mi then mq_loop E.1 sw hn mx (mq_ex E.1 sw hn mx Z.2.2.1 cd F d) (cd mi) (mx mi) none F 0 (mq_en 0 as) [] M 0 0 else none) = some (.inl rv, M') := h
    split at h
    · rename_i hlen
      have hne : cd mi ≠ [] := by
        intro h0
        rw [h0] at h
        cases F with
        | zero => cases h
        | succ f => cases h
      obtain ⟨hpl, hno8, hrows⟩ := hok mi hne
      refine Met.ofW (cc := Z.2.1 mi) (maxL := Z.2.2.1 mi) (ret := Z.2.2.2.1 mi) hpl rfl ?_
      intro p e s m args below meth c s₁ B hml hv
      obtain ⟨rfl, hsz, hP, hK, hD0, hX⟩ := hv
      have hr := B.returns
      have hts := atoms_spec (ws := mq_ws Z mi) B.pre
      have hown : s.vm.findClass (Z.1 mi).cls = some m.cls := findClass_of_methodNamed B.named
      have hlocks := B.notSynchronized
      have hname : meth.name = (Z.1 mi).name := (name_of_methodNamed B.named B.method).1
      subst hsz
      have hD := hD0.self (sz := s.heap.size)
      have C : mq_C p s m (as.map (mq_cl ad)).toArray c (Z.2.1 mi) (Z.2.2.1 mi) (Z.1 mi).cls (mq_ws Z mi) D cl tys (va_A (mq_W E ad refs M) s.heap.size) X := ⟨B.exec, B.bytes, hml, hown, hts, hK, fun q h => Or.inr h, hX, hXs⟩
      have hl := lv_entry (as.map (mq_cl ad)) (n := Z.2.2.1 mi) (by rw [mq_sl_len]; exact hlen)
      rw [lg_entry_eq]
      generalize (lg_sl (as.map (mq_cl ad)) ++ List.replicate (Z.2.2.1 mi - (lg_sl (as.map (mq_cl ad))).length) Slot.unset).toArray = ls at hl ⊢
      rw [mq_lv_args] at hl
      exact mq_main (res := (.inl rv, M')) (rt := Z.2.2.2.1 mi) (lim := mx mi) (d := d) C h9 (fun hi => by rw [hname]; exact of_decide_eq_true hi) htI htL htB htZ htQ htO hrows (fun a as M rv M' h => ih a as M rv M' h) ⟨Nat.le_refl _, Nat.le_refl _, Nat.le_refl _, Nat.le_refl _⟩ (fun w h => by cases h) (fun pc ix nx a b sc v _ lv st M cs ss q as r x M' hp _ _ _ _ _ _ _ hh => by rw [hnh] at hh; cases hh)
        (fun pc ix nx a b v hm lv st M cs ss as r w M' _ _ _ _ _ _ => by have h8 := List.all_eq_true.mp hno8 _ hm; cases h8)
        (fun pc lv x M1 cs ss hd hb he hcs hss => by
          cases he
          rcases hb with ⟨hb, hx⟩ | hb
          · exact mq_r_int C (ty := .boolean) (hr.trans hb) (by rcases hx with rfl | rfl <;> rfl) hlocks hcs hss hd
          · exact mq_r_int C (ty := .int) (hr.trans hb) rfl hlocks hcs hss hd)
        (fun pc lv w M1 cs ss hd hb he hcs hss => by
          cases he
          obtain ⟨ty, hb, hty⟩ := hb
          exact mq_r_ref C (ty := ty) (hr.trans hb) hty hlocks hcs hss hd)
        (fun pc lv M1 cs ss hd hb he hcs hss => by
          cases he
          exact mq_r_void C (hr.trans hb) hlocks hcs hss hd)
        (fun en _ ix _ _ lv M1 cs ss he _ _ => by cases he)
        F 0 (mq_en 0 as) [] M 0 0 (Nat.zero_le _) (Nat.zero_le _) h s.heap [] ls ad refs ⟨hP, hD, va_S.rf, hV, fun _ h => h, fun _ _ => rfl⟩ hl (fun i r h => hva r (mq_en_mem h)) (fun r h => by cases h)
    · cases h
