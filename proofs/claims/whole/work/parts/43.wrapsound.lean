/-! The law's wrappers: a call, its throws caught; their contract. -/
theorem mq_Y.at {E : mEv} {D : va_G} {cl : List vw_C} {A : Nat → Prop} {s U : State} {ad0 ad : Nat × Nat → Nat} {refs0 refs : List (Nat × Nat)} {M : mMm} {H : Heap} {locs : List Loc} (hY : mq_Y A s s.heap) (hAl : ∀ q, s.heap.size ≤ q → A q) (hB : mq_B E D cl A s ad0 refs0 ad refs M H locs) (hU : U.heap = H) (hW : s.WarmedH U.vm) : mq_Y (va_A (mq_W E ad refs M) H.size) U U.heap := by
  have hAA : ∀ q, va_A (mq_W E ad refs M) H.size q → A q := by
    intro q hq
    rcases hq with ⟨k, e, hk⟩ | hq
    · exact hB.2.1.2 k _ hk
    · exact hAl q (Nat.le_trans hB.2.2.1.1 hq)
  rw [hU]
  exact ⟨((hY.1.kept (fun a h1 h2 => hB.2.2.1.2.1 a h1 h2)).moved hW.alike).narrow hAA, ((hY.2.kept (fun a h1 h2 => hB.2.2.1.2.1 a h1 h2)).moved hW.alike).narrow hAA⟩
theorem pg_N_warm (u U : State) (hW : u.WarmedH U.vm) (h : pg_N u) : pg_N U := fun q hq => (h q hq).moved hW.alike
theorem pg_PT_blind {cA : Nat → ClassId} {D : va_G} {sz : Nat} {ad : Nat × Nat → Nat} {refs : List (Nat × Nat)} {as : List mLV} {M : mMm} : FrameBlind (pg_PT cA D sz ad refs as M) := by
  intro a U g mk q
  refine ⟨mq_blind pX_warm a U g mk q.1, pg_W_warm U _ (State.WarmedH.refl U) q.2.1, ?_⟩
  exact ⟨mq_Zs.moved (u := U) (U := U.calling g mk a) (Vm.Alike.refl U.vm) q.2.2.1, mq_Zs.moved (u := U) (U := U.calling g mk a) (Vm.Alike.refl U.vm) q.2.2.2⟩
/-- a wrapper's start -/
def pg_PW (cA : Nat → ClassId) (D : va_G) (sz : Nat) (ad : Nat × Nat → Nat) (refs : List (Nat × Nat)) (as : List mLV) (M : mMm) : Array Value → State → Prop := fun v U => pg_PT cA D sz ad refs as M v U ∧ pg_N U
theorem pg_PW_blind {cA : Nat → ClassId} {D : va_G} {sz : Nat} {ad : Nat × Nat → Nat} {refs : List (Nat × Nat)} {as : List mLV} {M : mMm} : FrameBlind (pg_PW cA D sz ad refs as M) := fun a U g mk q => ⟨pg_PT_blind a U g mk q.1, pg_N_warm U _ (State.WarmedH.refl U) q.2⟩
def pWr (F d : Nat) (hn : Nat → Nat → Option Nat) (k : Nat) (code : List mEn) (as : List mLV) (M : mMm) : mRs := if as.length ≤ pg_Z.2.2.1 k then mq_loop pg_ki pg_sw hn pg_mx (pX F d) code (pg_mx k) none F 0 (mq_en 0 as) [] M 0 0 else none
abbrev pw_ws (k : Nat) (hh : List (Nat × Nat × Nat × Nat)) : List Cond := Jvm.Cond.codeWith (pg_Z.1 k) (pg_Z.2.1 k) (pg_Z.2.2.1 k) (pg_Z.2.2.2.1 k) hh :: pg_G
theorem pg_ex_yes {U : State} (hW : pg_W U) {x : Nat} (hx : x = 50 ∨ x = 51 ∨ x = 52) : mq_cs U (pg_ex x) (pg_ex x) true := by
  rcases hx with rfl | rfl | rfl
  · exact mq_cs.yes (args := #[]) hW.2.2.2.1
  · exact mq_cs.yes (args := #[]) hW.2.2.2.2.1
  · exact mq_cs.yes (args := #[]) hW.2.2.2.2.2.1
set_option maxHeartbeats 4000000 in
theorem pw_sound {l : Launch} {D : va_G} {F : Nat} (cA : Nat → ClassId) (hfl : l.flags = flags0) (d k : Nat) (hd5 : 5 ≤ d) {hn : Nat → Nat → Option Nat} {code : List mEn} {hh : List (Nat × Nat × Nat × Nat)}
    (hcls : (pg_Z.1 k).cls = "PartitionKernelLaw") (hrt : pg_Z.2.2.2.1 k = some .int)
    (hrows0 : ∀ Ts : List Cond, (∀ w ∈ pg_G, w ∈ Ts) → ∀ en ∈ code, mq_ok (pg_Z.2.1 k) (pg_Z.2.2.1 k) "PartitionKernelLaw" Ts pg_cl (pg_tys cA) (pg_E cA) pg_Z pg_sw pg_mx false (some .int) pg_X en)
    (hno8 : (code.all fun en => en.2.2.2.2.2.1 != 8) = true)
    (hcat : ∀ en ∈ code, ∀ ix, en.2.1 = ClassFile.Instr.invokevirtual ix → (∀ en' ∈ pg_c en.2.2.2.1, mq_okt (pg_Z.2.1 en.2.2.2.1) (pg_Z.1 en.2.2.2.1).cls (mq_ws pg_Z en.2.2.2.1) pg_ki pg_ex pg_nm pg_W en') ∧ ∀ sc x hp, hn sc x = some hp → (x = 50 ∨ x = 51 ∨ x = 52) ∧ pw_okh (pg_Z.2.1 k) (pg_Z.2.2.1 k) hh en.1 x hp)
    (as : List mLV) (M : mMm) (rv : Option mLV) (M1 : mMm) (h : pWr F (d + 1) hn k code as M = some (.inl rv, M1))
    (ad : Nat × Nat → Nat) (refs : List (Nat × Nat)) (sz : Nat) (hV : mq_V (pg_E cA) M refs) (hva : ∀ r, (.inr (some r) : mLV) ∈ as → mq_vr refs r) :
    Met l (pg_Z.1 k) (pw_ws k hh) (mq_rm pg_mx (d + 2) k) (pg_PW cA D sz ad refs as M) (mq_Qc (pg_E cA) D pg_cl (pg_tys cA) (va_A (mq_W (pg_E cA) ad refs M) sz) ad refs rv M1) (pg_mx k).1 (pg_mx k).2.1 (va_A (mq_W (pg_E cA) ad refs M) sz) := by
  unfold pWr at h
  split at h
  · rename_i hlen
    refine va_MetW (cc := pg_Z.2.1 k) (maxL := pg_Z.2.2.1 k) (ret := pg_Z.2.2.2.1 k) (hh := hh) (by rw [hcls]; decide) rfl ?_
    intro p e s m args below meth c s₁ B hml hv
    obtain ⟨⟨⟨rfl, hsz, hP, hK, hD0, hX⟩, hW, hY⟩, hN⟩ := hv
    have hr := B.returns
    have hts := atoms_spec (ws := pw_ws k hh) B.pre
    have hown : s.vm.findClass "PartitionKernelLaw" = some m.cls := by rw [← hcls]; exact findClass_of_methodNamed B.named
    have hlocks := B.notSynchronized
    obtain ⟨m9, meth9, c9, hn9, hm9, hc9, -, -, htab, -⟩ := Cond.codeWith_spec (hts _ List.mem_cons_self)
    cases B.named.symm.trans hn9
    cases B.method.symm.trans hm9
    cases (Stand.of_body B).code.symm.trans hc9
    subst hsz
    have hD := hD0.self (sz := s.heap.size)
    have hGs : ∀ w ∈ pg_G, w ∈ pw_ws k hh := fun w h => List.mem_cons_of_mem _ h
    have hrows := hrows0 _ hGs
    have C : mq_C p s m (as.map (mq_cl ad)).toArray c (pg_Z.2.1 k) (pg_Z.2.2.1 k) "PartitionKernelLaw" (pw_ws k hh) D pg_cl (pg_tys cA) (va_A (mq_W (pg_E cA) ad refs M) s.heap.size) pg_X := ⟨B.exec, B.bytes, hml, hown, hts, hK, fun q h => Or.inr h, hX, pX_warm⟩
    have hl := lv_entry (as.map (mq_cl ad)) (n := pg_Z.2.2.1 k) (by rw [mq_sl_len]; exact hlen)
    rw [lg_entry_eq]
    generalize (lg_sl (as.map (mq_cl ad)) ++ List.replicate (pg_Z.2.2.1 k - (lg_sl (as.map (mq_cl ad))).length) Slot.unset).toArray = ls at hl ⊢
    rw [mq_lv_args] at hl
    have hR : d + 1 + 1 ≤ (headSpec (pw_ws k hh) (mq_rm pg_mx (d + 2) k)).room.frames ∧ 37 * (d + 1 + 1) ≤ (headSpec (pw_ws k hh) (mq_rm pg_mx (d + 2) k)).room.locals ∧ (pg_mx k).1 ≤ (headSpec (pw_ws k hh) (mq_rm pg_mx (d + 2) k)).room.cells ∧ (pg_mx k).2.1 ≤ (headSpec (pw_ws k hh) (mq_rm pg_mx (d + 2) k)).room.slots := ⟨Nat.le_refl _, Nat.le_refl _, Nat.le_refl _, Nat.le_refl _⟩
    refine mq_main (E := pg_E cA) (res := (.inl rv, M1)) (rt := some .int) (lim := pg_mx k) (d := d + 1) (tI := 0) (tL := 1) (tB := 2) (tZ := 3) C rfl (fun hi => by cases hi) rfl rfl rfl rfl (pg_htQ cA) pg_htO hrows (fun a as M rv M' h => pg_sound cA (d + 1) a as M rv M' h) hR (fun w h => by cases h)
      ?_
      (fun pc ix nx a b v hm lv st M cs ss as r w M' _ _ _ _ _ _ => by have h8 := List.all_eq_true.mp hno8 _ hm; cases h8)
      (fun pc lv x M1 cs ss hd hb he hcs hss => by
        cases he
        exact mq_r_int C (ty := .int) (hr.trans hrt) rfl hlocks hcs hss hd)
      (fun pc lv w M2 cs ss hd hb he hcs hss => by
        obtain ⟨ty, hb, hty⟩ := hb
        cases hb
        rcases hty with ⟨_, h⟩ | ⟨_, h⟩ <;> cases h)
      (fun pc lv M2 cs ss hd hb he hcs hss => by cases hb)
      (fun en _ ix _ _ lv M2 cs ss he _ _ => by cases he)
      F 0 (mq_en 0 as) [] M 0 0 (Nat.zero_le _) (Nat.zero_le _) h s.heap [] ls ad refs ⟨hP, hD, va_S.rf, hV, fun _ h => h, fun _ _ => rfl⟩ hl (fun i r h => hva r (mq_en_mem h)) (fun r h => by cases h)
    intro pc ix nx a b sc v hm lv st M2 cs ss q as2 r x M3 hp hpop t1 t2 hr4 hl1 hl2 hc hhp kk
    obtain ⟨⟨hd, hnx⟩, nA, qC, hb, hk, hinst, hqC, hsel⟩ := hrows _ hm
    obtain ⟨hot, hth⟩ := hcat _ hm ix rfl
    obtain ⟨hx3, pre, a1, b1, h1, ct1, rest, hs, hcov, h0, hcl, hpass, hst⟩ := hth sc x hp hhp
    obtain ⟨hlen2, -⟩ := mq_pop_st hpop
    rw [hs] at htab
    obtain ⟨pre', x', rest', q1, q2, q3⟩ := mq_split _ _ _ _ _ htab
    have q3 : (x'.startPc, x'.endPc, x'.handlerPc, x'.catchType) = (a1, b1, h1, ct1) := q3
    obtain ⟨rfl, rfl, rfl, rfl⟩ : x'.startPc = a1 ∧ x'.endPc = b1 ∧ x'.handlerPc = h1 ∧ x'.catchType = ct1 := by
      simpa only [Prod.mk.injEq] using q3
    refine mq_g_catch (E := pg_E cA) (ci := ((pg_E cA).1 q.1).2.1) (N := ((pg_E cA).1 q.1).2.2) C rfl hpop (by rw [← t1]) (by rw [t2]; exact hqC) (PT := fun ad refs sz => pg_PT cA D sz ad refs (.inr (some q) :: as2) M2) (cls := pg_ex x)
      (fun ad refs sz hV hva => pg_soundT cA hfl d a hd5 hot _ M2 x M3 hc ad refs sz hV hva) (fun _ _ _ => pg_PT_blind)
      (fun H locs ad refs hB U hU hWm => ⟨mq_pre C hB U hU hWm, pg_W_warm s U hWm hW, hY.at (fun q h => Or.inr h) hB hU hWm⟩)
      ⟨mq_callB C hR hk hk.2.2.1, C.2.2.2.2.1 _ hinst, C.2.2.2.2.1 _ hsel⟩ (by simp only [List.length_cons] at hlen2; omega) hr4 ⟨Nat.le_trans hl1 hR.2.2.1, Nat.le_trans hl2 hR.2.2.2⟩ hd
      pre' x' rest' q1 (by simpa [covers] using hcov) h0 (hGs _ hcl) (pg_ex_yes hW hx3) ?_ hst kk
    intro y hy
    have hy2 : (y.startPc, y.endPc, y.handlerPc, y.catchType) ∈ pre := by rw [← q2]; exact List.mem_map.mpr ⟨y, hy, rfl⟩
    obtain ⟨z1, n', z2, z3⟩ := hpass _ hy2
    exact ⟨z1, n', hGs _ z2, hN _ z3⟩
  · cases h
