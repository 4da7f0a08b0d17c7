/-! One tick in a partition. -/
section TICK
variable {d e b p q K : Nat} {σ μ σ0 μ0 : mSg}
theorem KI.instr (h : KI b σ0 μ0 σ μ) (v : Int32) : KI b σ0 μ0 (mq_up σ 6 0 6 v) (mq_up μ 7 0 5 v) :=
  ⟨⟨h.1.1.both (k := 6) (i := 0) (j := 6) rfl v, fun K hK => h.1.2.1 K hK, og_eq h.1.2.2 (fun _ => rfl) (fun _ => rfl) (fun _ => rfl) (fun _ => rfl) rfl⟩, h.2.1.frame (RFc.up rfl) (RFm.up rfl) (Nat.le_refl _), h.2.2.frame (fun _ => rfl) (Nat.le_refl _)⟩
theorem KI.fin {rd : Nat} {vo : Option Int32} {nx : Int32} (h : KI b σ0 μ0 σ μ) (hK : K < 32) (hrd : rd < 32) : KI b σ0 μ0 (cFin σ K rd vo nx) (match vo with
    | none => mq_up μ 13 36 K nx
    | some v => if rd = 0 then mq_up μ 13 36 K nx else mq_up (mq_up μ 16 0 (32 * K + rd) v) 13 36 K nx) := by
  cases vo with
  | none => exact h.fld (j := 6) hK rfl (by decide) (Or.inr (Or.inl rfl)) nx
  | some v =>
    show KI b σ0 μ0 (cSet (mq_up σ 5 K 6 nx) K rd v) (if rd = 0 then mq_up μ 13 36 K nx else mq_up (mq_up μ 16 0 (32 * K + rd) v) 13 36 K nx)
    unfold cSet
    by_cases h0 : rd = 0
    · rw [if_pos h0, if_pos h0]
      exact h.fld (j := 6) hK rfl (by decide) (Or.inr (Or.inl rfl)) nx
    · rw [if_neg h0, if_neg h0, up_comm (by omega)]
      exact (h.reg hK hrd v).fld (j := 6) hK rfl (by decide) (Or.inr (Or.inl rfl)) nx
theorem cFin_6 {rd j : Nat} {vo : Option Int32} {nx : Int32} : cFin σ K rd vo nx 6 0 j = σ 6 0 j := by
  cases vo with
  | none => rfl
  | some v =>
    show cSet (mq_up σ 5 K 6 nx) K rd v 6 0 j = _
    unfold cSet
    by_cases h0 : rd = 0
    · rw [if_pos h0]; rfl
    · rw [if_neg h0]; rfl
theorem tick_both (h : KI b σ0 μ0 σ μ) (hb : b < 2 ^ 26) (hbg : ¬ σ 6 0 7 = 0) (hp : p < 4) (hst : σ 4 p 8 = 0) (m130 : ∀ e, Sp (e + 1) 130 [.inr (some (7, 0))] μ (rI (nI p)) μ) :
    ∃ many σ1 μ1, Sp (d + 6) 92 [.inr (some (6, 0)), .inr (some (4, p))] σ (.inl none) σ1 ∧ Sp (e + 6) 134 [.inr (some (7, 0))] μ (rI many) (mq_up μ1 7 0 2 (μ1 7 0 2 + 1)) ∧ KI (b + 100) σ0 μ0 σ1 μ1 ∧ σ1 6 0 6 = σ 6 0 6 + many ∧ σ1 6 0 7 = σ 6 0 7 := by
  have ep := nI_clamp (n := p) (by omega)
  have hpb : ¬ (nI p < 0 ∨ 4 ≤ (nI p).toNatClampNeg) := nI_in hp (by decide)
  have hstM : μ 31 0 (nI p).toNatClampNeg = 0 := by rw [ep]; exact (h.1.1.get (lk_4 hp rfl)).trans hst
  obtain ⟨N, hN, hc⟩ := h.cnt hp
  obtain ⟨σ1, μ1, k1, k2, k3, k4, k5⟩ := wake_both (d := d + 3) (e := e + 3) h.1 hp hN h.time.symm hc
  have h1 : KI (b + 8) σ0 μ0 σ1 μ1 := h.proc k3 k4 k5 (by omega)
  have z1 : ∀ j, σ1 6 0 j = σ 6 0 j := fun j => k4 6 0 j (by decide) (by omega) (by omega)
  obtain ⟨r, σ2, μ2, l1, l2, l3, l4, l5, l6⟩ := late_both (d := d) (e := e) h1 (by omega) hp
  have z2 : ∀ j, σ2 6 0 j = σ 6 0 j := fun j => (l4 j).trans (z1 j)
  by_cases hr : r = 0
  · have hc2 : σ2 4 p 5 = nI N := (l5 p).trans ((k4 4 p 5 (by decide) (by omega) (by omega)).trans hc)
    have hm2 : μ2 10 8 p = nI N := (l3.1.1.cnt hp).trans hc2
    have s31 := S31 (d := d + 3) (p := p) (σ := σ2) (x1 := 1) (x2 := -1) hN hc2
    have s133 := S133 (d := e + 4) (p := p) (μ := μ2) hp hN hm2
    have hfe := first_eq (N := N) l3.1 (by omega) hp hN
    cases hq : bst (okC σ2 p 1 (-1)) (fun q r => ldC σ2 (8 * p + q) (8 * p + r)) N with
    | none =>
      rw [hq] at s31 hfe
      rw [← hfe] at s133
      exact ⟨0, σ2, μ2, P92_1 k1 l1 hr s31, P134_1 (m130 _) hpb hstM k2 l2 hr s133 rfl, l3.mono (by omega), by rw [z2, Int32.add_zero], z2 7⟩
    | some q =>
      obtain ⟨hqN, hok⟩ := bst_ok hq
      rw [hq] at s31 hfe
      rw [← hfe] at s133
      have s133 : Sp (e + 5) 133 [.inr (some (7, 0)), .inl (nI p)] μ2 (rI (nI (8 * p + q))) μ2 := s133
      have hq8 : q < 8 := by omega
      simp only [okC, Bool.and_eq_true, decide_eq_true_eq] at hok
      have hK : 8 * p + q < 32 := by omega
      have eK := nI_clamp (n := 8 * p + q) (by omega)
      have hkb : ¬ (nI (8 * p + q) < 0 ∨ 32 ≤ (nI (8 * p + q)).toNatClampNeg) := nI_in hK (by decide)
      have hw7 : ¬ nI (8 * p + q) = -1 := nI_m1 (by omega)
      have e13 : μ2 13 42 (8 * p + q) = σ2 5 (8 * p + q) 13 := l3.1.1.get (lk_p' hK 13 42 rfl)
      have e6 : μ2 7 0 5 = σ2 6 0 6 := l3.1.1.get (k := 6) (i := 0) (j := 6) rfl
      -- counted
      have h3 : KI (b + 80) σ0 μ0 (mq_up (mq_up σ2 5 (8 * p + q) 13 (σ2 5 (8 * p + q) 13 + 1)) 6 0 6 (σ2 6 0 6 + 1)) (mq_up (mq_up μ2 7 0 5 (μ2 7 0 5 + 1)) 13 42 (nI (8 * p + q)).toNatClampNeg (μ2 13 42 (nI (8 * p + q)).toNatClampNeg + 1)) := by
        rw [eK, e13, e6, up_comm (k := 7) (i := 0) (j := 5) (k' := 13) (i' := 42) (j' := 8 * p + q) (by omega)]
        exact ((l3.fld (j := 13) hK rfl (by decide) (Or.inr (Or.inr (Or.inr rfl))) _).instr _).mono (by omega)
      have z3 : ∀ j, j ≠ 6 → mq_up (mq_up σ2 5 (8 * p + q) 13 (σ2 5 (8 * p + q) 13 + 1)) 6 0 6 (σ2 6 0 6 + 1) 6 0 j = σ 6 0 j := fun j hj => by rw [up_nj hj]; exact z2 j
      have z36 : mq_up (mq_up σ2 5 (8 * p + q) 13 (σ2 5 (8 * p + q) 13 + 1)) 6 0 6 (σ2 6 0 6 + 1) 6 0 6 = σ 6 0 6 + 1 := by rw [up_eq, z2]
      have st3 : mq_up (mq_up σ2 5 (8 * p + q) 13 (σ2 5 (8 * p + q) 13 + 1)) 6 0 6 (σ2 6 0 6 + 1) 5 (8 * p + q) 7 = 1 := by rw [up_nk (by decide), up_nj (by decide)]; exact hok.1
      have pc3 : mq_up (mq_up μ2 7 0 5 (μ2 7 0 5 + 1)) 13 42 (nI (8 * p + q)).toNatClampNeg (μ2 13 42 (nI (8 * p + q)).toNatClampNeg + 1) 13 36 (nI (8 * p + q)).toNatClampNeg = μ2 13 36 (nI (8 * p + q)).toNatClampNeg := rfl
      have pcC : mq_up (mq_up σ2 5 (8 * p + q) 13 (σ2 5 (8 * p + q) 13 + 1)) 6 0 6 (σ2 6 0 6 + 1) 5 (8 * p + q) 6 = μ2 13 36 (nI (8 * p + q)).toNatClampNeg := by
        rw [up_nk (by decide), up_nj (by decide), eK]
        exact (l3.1.1.get (lk_p' hK 6 36 rfl)).symm
      generalize hσ3 : mq_up (mq_up σ2 5 (8 * p + q) 13 (σ2 5 (8 * p + q) 13 + 1)) 6 0 6 (σ2 6 0 6 + 1) = σ3 at h3 z3 z36 st3 pcC
      generalize hμ3 : mq_up (mq_up μ2 7 0 5 (μ2 7 0 5 + 1)) 13 42 (nI (8 * p + q)).toNatClampNeg (μ2 13 42 (nI (8 * p + q)).toNatClampNeg + 1) = μ3 at h3 pc3
      have hrem : nI (8 * p + q) - nI (8 * p + q) / 8 * 8 = nI q := by
        have t := pk_rem (a := 8 * p + q) (d := 8) (by omega) (by decide) (by decide)
        rw [show (8 * p + q) % 8 = q by omega] at t
        exact t
      have hbg3 : ¬ σ3 6 0 7 = 0 := by rw [z3 7 (by decide)]; exact hbg
      -- an error
      have err : ∀ (k : Nat) (w5 : Int32) (μ4 : mSg), k < 4 → w5 = nI k → KI (b + 80) σ0 μ0 σ3 μ4 → (∀ w ω, Sp (d + 5) 94 [.inr (some (6, 0)), .inr (some (4, p)), .inr (some (5, 8 * p + q)), .inl (nI k)] σ3 (rI w) ω → Sp (d + 6) 92 [.inr (some (6, 0)), .inr (some (4, p))] σ (.inl none) ω) → (∀ w ω, Sp (e + 5) 106 [.inr (some (7, 0)), .inl (nI p), .inl (nI q), .inl (nI k)] μ4 (rI w) ω → Sp (e + 6) 134 [.inr (some (7, 0))] μ (rI 1) (mq_up ω 7 0 2 (ω 7 0 2 + 1))) →
          ∃ many σ1 μ1, Sp (d + 6) 92 [.inr (some (6, 0)), .inr (some (4, p))] σ (.inl none) σ1 ∧ Sp (e + 6) 134 [.inr (some (7, 0))] μ (rI many) (mq_up μ1 7 0 2 (μ1 7 0 2 + 1)) ∧ KI (b + 100) σ0 μ0 σ1 μ1 ∧ σ1 6 0 6 = σ 6 0 6 + many ∧ σ1 6 0 7 = σ 6 0 7 := fun k w5 μ4 hk e5 h4 hC hM => by
        obtain ⟨r', σ5, μ5, f1, f2, f3, f4, f5⟩ := fails_both h4 (by omega) hp hq8 hk
        exact ⟨1, σ5, μ5, hC _ _ (f1 (d + 1)), hM _ _ (f2 (e + 1)), f3.mono (by omega), by rw [f4, z36], by rw [f4, z3 7 (by decide)]⟩
      rcases step_both (d := d) (e := e + 1) h3 hp hq8 with ⟨w, rd, hrd, hfd, m107, m108, hrest⟩ | ⟨m107, c50, c119⟩
      · have m107' := m107 (e + 3)
        have m108' := m108 (e + 4)
        rw [pcC] at m107' m108'
        rcases hrest with (⟨er, μ4, he, c50, c119, h4⟩ | ⟨σm, nx, vo, μ4, c50, c119, h4, ⟨fM1, fM2, fM3⟩, hfr⟩) | ⟨c50, c119⟩
        · refine err er (nI er) μ4 (by omega) rfl h4 (fun w ω hc => P92_5 k1 l1 hr s31 (by rw [hσ3]; exact c50) ?_ ?_ hc) (fun w0 ω hm => P134_9 (w36 := w0) (m130 _) hpb hstM k2 l2 hr s133 hw7 hkb (by rw [hμ3]; exact m107') (by decide) (by rw [pc3]; exact m108') c119 (nI_m1 (by omega)) ?_)
          · rcases (show er = 0 ∨ er = 1 by omega) with rfl | rfl <;> decide
          · exact nI_m1 (by omega)
          · show Sp (e + 5) 106 [.inr (some (7, 0)), .inl (nI p), .inl (nI (8 * p + q) - nI (8 * p + q) / 8 * 8), .inl (nI er)] _ _ _
            rw [hrem]; exact hm
        · have hfin := h4.fin (K := 8 * p + q) (vo := vo) (nx := nx) hK hrd
          have z4 : ∀ j, σm 6 0 j = σ3 6 0 j := fun j => hfr 6 0 j (by decide)
          have c92 := P92_4 k1 l1 hr s31 (by rw [hσ3]; exact c50) (by decide) rfl
          cases vo with
          | none =>
            have t := P134_6 (d := e + 5) (σ := μ) (m130 _) hpb hstM k2 l2 hr s133 hw7 hkb (by rw [hμ3]; exact m107') (by decide) (by rw [pc3]; exact m108') c119 rfl (fM2 rfl)
            rw [eK, fM1] at t
            exact ⟨1, _, _, c92, t, hfin.mono (by omega), by rw [cFin_6, z4, z36], by rw [cFin_6, z4, z3 7 (by decide)]⟩
          | some v =>
            obtain ⟨fs, fa⟩ := fM3 v rfl
            have hne : ¬ μ4 7 0 43 = 0 := by rw [fs]; decide
            have b7 : ∀ d, Sp (d + 1) 110 [.inl w, .inl 7, .inl 5] μ4 (rI (nI rd)) μ4 := fun d => by rw [← hfd]; exact B7
            by_cases h0 : rd = 0
            · have hfin : KI (b + 80) σ0 μ0 (cFin σm (8 * p + q) rd (some v) nx) (if rd = 0 then mq_up μ4 13 36 (8 * p + q) nx else mq_up (mq_up μ4 16 0 (32 * (8 * p + q) + rd) v) 13 36 (8 * p + q) nx) := hfin
              rw [if_pos h0] at hfin
              have t := P134_7 (d := e + 5) (σ := μ) (m130 _) hpb hstM k2 l2 hr s133 hw7 hkb (by rw [hμ3]; exact m107') (by decide) (by rw [pc3]; exact m108') c119 rfl hne (b7 _) (by rw [h0]; rfl)
              rw [eK, fM1] at t
              exact ⟨1, _, _, c92, t, hfin.mono (by omega), by rw [cFin_6, z4, z36], by rw [cFin_6, z4, z3 7 (by decide)]⟩
            · have hfin : KI (b + 80) σ0 μ0 (cFin σm (8 * p + q) rd (some v) nx) (if rd = 0 then mq_up μ4 13 36 (8 * p + q) nx else mq_up (mq_up μ4 16 0 (32 * (8 * p + q) + rd) v) 13 36 (8 * p + q) nx) := hfin
              rw [if_neg h0] at hfin
              have e32 : (32 * nI (8 * p + q) + nI rd).toNatClampNeg = 32 * (8 * p + q) + rd := by rw [ix32]; exact nI_clamp (by omega)
              have t := P134_8 (d := e + 5) (σ := μ) (m130 _) hpb hstM k2 l2 hr s133 hw7 hkb (by rw [hμ3]; exact m107') (by decide) (by rw [pc3]; exact m108') c119 rfl hne (b7 _) (nI_ne0 (by omega) (by omega)) (b7 _) (by show ¬ (32 * nI (8 * p + q) + nI rd < 0 ∨ 1024 ≤ (32 * nI (8 * p + q) + nI rd).toNatClampNeg); rw [ix32]; exact nI_in (by omega) (by decide))
              rw [e32, eK, fM1, fa] at t
              exact ⟨1, _, _, c92, t, hfin.mono (by omega), by rw [cFin_6, z4, z36], by rw [cFin_6, z4, z3 7 (by decide)]⟩
        · rcases call_both (d := d) (e := e) (h3.mU (pc := σ3 5 (8 * p + q) 6)) (by omega) hbg3 hp hq8 st3 with ⟨k, hk, cc, cm⟩ | ⟨σ4, μ4, cc, cm, h4, q43, q36, z4⟩
          · refine err k (nI k) (mU μ3 (σ3 5 (8 * p + q) 6)) hk rfl h3.mU (fun w ω hc => P92_3 k1 l1 hr s31 (by rw [hσ3]; exact c50) rfl cc (nI_m1 (by omega)) hc) (fun w0 ω hm => P134_9 (w36 := w0) (m130 _) hpb hstM k2 l2 hr s133 hw7 hkb (by rw [hμ3]; exact m107') (by decide) (by rw [pc3]; exact m108') (c119 _ _ cm) (nI_m1 (by omega)) ?_)
            show Sp (e + 5) 106 [.inr (some (7, 0)), .inl (nI p), .inl (nI (8 * p + q) - nI (8 * p + q) / 8 * 8), .inl (nI k)] _ _ _
            rw [hrem]; exact hm
          · have t := P134_6 (d := e + 5) (σ := μ) (m130 _) hpb hstM k2 l2 hr s133 hw7 hkb (by rw [hμ3]; exact m107') (by decide) (by rw [pc3]; exact m108') (c119 _ _ cm) rfl (q43.trans rfl)
            rw [eK, up_same q36] at t
            exact ⟨1, _, _, P92_2 k1 l1 hr s31 (by rw [hσ3]; exact c50) rfl cc rfl, t, h4.mono (by omega), by rw [z4, z36], by rw [z4, z3 7 (by decide)]⟩
      · have m107' := m107 (e + 3)
        rw [pcC] at m107'
        refine err 1 1 μ3 (by decide) rfl h3 (fun w ω hc => P92_5 k1 l1 hr s31 (by rw [hσ3]; exact c50) (by decide) (by decide) hc) (fun w0 ω hm => P134_5 (w23 := w0) (m130 _) hpb hstM k2 l2 hr s133 hw7 hkb (by rw [hμ3]; exact m107') rfl c119 (by decide) ?_)
        show Sp (e + 5) 106 [.inr (some (7, 0)), .inl (nI p), .inl (nI (8 * p + q) - nI (8 * p + q) / 8 * 8), .inl 1] _ _ _
        rw [hrem]; exact hm
  · exact ⟨0, σ2, μ2, P92_6 k1 l1 hr, P134_10 (m130 _) hpb hstM k2 l2 hr, l3.mono (by omega), by rw [z2, Int32.add_zero], z2 7⟩
end TICK
