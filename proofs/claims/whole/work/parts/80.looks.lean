/-! The looks: class and reference answer alike. -/
theorem i_sub3 (x y z : Int32) : x - y - z = x - (y + z) := by
  apply Int32.toBitVec_inj.mp
  rw [Int32.toBitVec_sub, Int32.toBitVec_sub, Int32.toBitVec_sub, Int32.toBitVec_add, BitVec.sub_sub]
theorem i_of_add {x y z : Int32} (h : x + y = z) : z - y = x := by rw [← h, Int32.add_sub_cancel]
theorem nI_sub {a b : Nat} (h : b ≤ a) : nI a - nI b = nI (a - b) := i_of_add (by rw [nI_add, Nat.sub_add_cancel h])
section LOOKS
variable {d e b p : Nat} {σ μ σ0 μ0 : mSg} {x1 x2 x3 : Int32}
theorem KI.thr (h : KI b σ0 μ0 σ μ) (v : Int32) : KI b σ (mq_up μ 7 0 0 v) σ (mq_up μ 7 0 0 v) :=
  ⟨⟨h.1.1.thr v, h.1.2.1, og_eq h.1.2.2 (fun _ => rfl) (fun _ => rfl) (fun _ => rfl) (fun _ => rfl) rfl⟩, h.2.1.frame RFc.rf (RFm.up rfl) (Nat.le_refl _), h.2.2⟩
theorem part_cases (x : Int32) : (∃ p, p < 4 ∧ x = nI p ∧ (∀ d σ, Sp (d + 2) 89 [.inr (some (6, 0)), .inl x] σ (.inl (some (.inr (some (4, p))))) σ) ∧ in01 x 4 = 1) ∨ ((∀ d σ, Sp (d + 2) 89 [.inr (some (6, 0)), .inl x] σ (.inl (some (.inr none))) σ) ∧ in01 x 4 = 0) := by
  by_cases h0 : x < 0
  · exact Or.inr ⟨fun d σ => P89_1 S86 (in01_0 (fun c => c.1 h0)), in01_0 (fun c => c.1 h0)⟩
  · by_cases h1 : x < 4
    · obtain ⟨p, hp, rfl⟩ := of_lt (n := 4) (by decide) h0 h1
      exact Or.inl ⟨p, hp, rfl, fun d σ => S89 hp, in01_1 h0 h1⟩
    · exact Or.inr ⟨fun d σ => P89_1 S86 (in01_0 (fun c => h1 c.2)), in01_0 (fun c => h1 c.2)⟩
/-- both answer v, and nothing else happens but that nothing was thrown -/
def LK (σ μ : mSg) (C M : mRz → mSg → Prop) : Prop := ∃ v, C (rI v) σ ∧ M (rI v) (mq_up μ 7 0 0 0)
theorem look_peek (h : KI b σ0 μ0 σ μ) : LK σ μ (Sp (d + 3) 78 [.inr (some (6, 0)), .inl x1, .inl x2] σ) (Sp (e + 3) 142 [.inr (some (7, 0)), .inl x1, .inl x2] μ) := by
  have hT := h.thr 0
  rcases part_cases x1 with ⟨p, hp, rfl, s89, hin⟩ | ⟨s89, hin⟩
  · rcases place_both (s := 4) x2 (Or.inr (Or.inr rfl)) with ⟨n, hn, hn4, rfl, c16, c107⟩ | ⟨c16, c107⟩
    · exact ⟨_, P78_2 (s89 _ _) (S17 hn hn4), P142_3 S101 (by rw [hin]; decide) (c107 _ _) (by decide) (load4 hT hp hn hn4)⟩
    · exact ⟨0, P78_2 (s89 _ _) (P17_1 (c16 _ _) rfl), P142_2 S101 (by rw [hin]; decide) (c107 _ _) rfl⟩
  · exact ⟨0, P78_1 (s89 _ _), P142_1 S101 hin⟩
theorem proc_cases (h : KI b σ0 μ0 σ μ) : (∃ p q, p < 4 ∧ q < 8 ∧ x1 = nI p ∧ x2 = nI q ∧ (∀ d, Sp (d + 3) 90 [.inr (some (6, 0)), .inl x1, .inl x2] σ (.inl (some (.inr (some (5, 8 * p + q))))) σ) ∧ ∀ e, Sp (e + 2) 143 [.inr (some (7, 0)), .inl x1, .inl x2] μ (rI 1) μ) ∨ ((∀ d, Sp (d + 3) 90 [.inr (some (6, 0)), .inl x1, .inl x2] σ (.inl (some (.inr none))) σ) ∧ ∀ e, Sp (e + 2) 143 [.inr (some (7, 0)), .inl x1, .inl x2] μ (rI 0) μ) := by
  rcases part_cases x1 with ⟨p, hp, rfl, s89, hin⟩ | ⟨s89, hin⟩
  · obtain ⟨N, hN, hc⟩ := h.cnt hp
    have hm : μ 10 8 p = nI N := (h.1.1.cnt hp).trans hc
    have hpb : ¬ (nI p < 0 ∨ 4 ≤ (nI p).toNatClampNeg) := nI_in hp (by decide)
    rcases find_cases (x := x2) hN hc hm hp with ⟨r, hr, rfl, s24, hin2⟩ | ⟨s24, hin2⟩
    · exact Or.inl ⟨p, r, hp, by omega, rfl, rfl, fun d => P90_3 (s89 _ _) (s24 _), fun e => P143_3 S101 (by rw [hin]; decide) hpb S101 (by rw [hin2]; decide)⟩
    · exact Or.inr ⟨fun d => P90_2 (s89 _ _) (s24 _), fun e => P143_2 S101 (by rw [hin]; decide) hpb S101 hin2⟩
  · exact Or.inr ⟨fun d => P90_1 (s89 _ _), fun e => P143_1 S101 hin⟩
theorem look_register (h : KI b σ0 μ0 σ μ) : LK σ μ (Sp (d + 4) 79 [.inr (some (6, 0)), .inl x1, .inl x2, .inl x3] σ) (Sp (e + 3) 144 [.inr (some (7, 0)), .inl x1, .inl x2, .inl x3] μ) := by
  have hT := h.thr 0
  rcases proc_cases (x1 := x1) (x2 := x2) hT with ⟨p, q, hp, hq, rfl, rfl, s90, m143⟩ | ⟨s90, m143⟩
  · by_cases h0 : x3 < 0
    · exact ⟨0, P79_2 (s90 _) (P43_1 h0), P144_2 (m143 _) (by decide) S101 (in01_0 (fun c => c.1 h0))⟩
    · by_cases h1 : x3 < 32
      · obtain ⟨r, hr, rfl⟩ := of_lt (n := 32) (by decide) h0 h1
        have e1 : (32 * (8 * nI p + nI q) + nI r).toNatClampNeg = 32 * (8 * p + q) + r := by rw [ix8, ix32]; exact nI_clamp (by omega)
        have t := P144_3 (d := e + 2) (σ := μ) (x1 := nI p) (x2 := nI q) (x3 := nI r) (m143 _) (by decide) S101 (by rw [show in01 (nI r) 32 = 1 from in01_1 h0 h1]; decide) (by rw [ix8, ix32]; exact nI_in (by omega) (by decide))
        rw [e1, hT.1.1.get (lk_r (show 8 * p + q < 32 by omega) hr)] at t
        exact ⟨_, P79_2 (s90 _) (S43 hr), t⟩
      · exact ⟨0, P79_2 (s90 _) (P43_3 h0 h1), P144_2 (m143 _) (by decide) S101 (in01_0 (fun c => h1 c.2))⟩
  · exact ⟨0, P79_1 (s90 _), P144_1 (m143 _) rfl⟩
theorem look_state (h : KI b σ0 μ0 σ μ) : LK σ μ (Sp (d + 4) 80 [.inr (some (6, 0)), .inl x1, .inl x2, .inl x3] σ) (Sp (e + 3) 145 [.inr (some (7, 0)), .inl x1, .inl x2, .inl x3] μ) := by
  have hT := h.thr 0
  rcases proc_cases (x1 := x1) (x2 := x2) hT with ⟨p, q, hp, hq, rfl, rfl, s90, m143⟩ | ⟨s90, m143⟩
  · have hK : 8 * p + q < 32 := by omega
    have e8 : (8 * nI p + nI q).toNatClampNeg = 8 * p + q := by rw [ix8]; exact nI_clamp (by omega)
    have hb8 : ¬ (8 * nI p + nI q < 0 ∨ 32 ≤ (8 * nI p + nI q).toNatClampNeg) := by rw [ix8]; exact nI_in (by omega) (by decide)
    have G : ∀ {j f : Nat}, lkF j = f → f ≠ 0 → mq_up μ 7 0 0 0 13 f (8 * nI p + nI q).toNatClampNeg = σ 5 (8 * p + q) j := fun {j f} hf h0 => by rw [e8]; exact hT.1.1.get (lk_p' hK j f hf h0)
    by_cases c0 : x3 = 0
    · exact ⟨_, P80_2 (s90 _) (P49_1 c0), by rw [← G (j := 7) (f := 37) rfl (by decide)]; exact P145_2 (m143 _) (by decide) c0 hb8⟩
    · by_cases c1 : x3 = 1
      · exact ⟨_, P80_2 (s90 _) (P49_2 c1), by rw [← G (j := 6) (f := 36) rfl (by decide)]; exact P145_3 (m143 _) (by decide) c1 hb8⟩
      · by_cases c2 : x3 = 2
        · exact ⟨_, P80_2 (s90 _) (P49_3 c2), by rw [← G (j := 3) (f := 33) rfl (by decide)]; exact P145_4 (m143 _) (by decide) c2 hb8⟩
        · by_cases c3 : x3 = 3
          · exact ⟨_, P80_2 (s90 _) (P49_4 c3), by rw [← G (j := 8) (f := 38) rfl (by decide)]; exact P145_5 (m143 _) (by decide) c3 hb8⟩
          · by_cases c4 : x3 = 4
            · exact ⟨_, P80_2 (s90 _) (P49_5 c4), by rw [← G (j := 10) (f := 39) rfl (by decide)]; exact P145_6 (m143 _) (by decide) c4 hb8⟩
            · by_cases c5 : x3 = 5
              · exact ⟨_, P80_2 (s90 _) (P49_6 c5), by rw [← G (j := 11) (f := 40) rfl (by decide)]; exact P145_7 (m143 _) (by decide) c5 hb8⟩
              · by_cases c6 : x3 = 6
                · exact ⟨_, P80_2 (s90 _) (P49_7 c6), by rw [← G (j := 13) (f := 42) rfl (by decide)]; exact P145_8 (m143 _) (by decide) c6 hb8⟩
                · by_cases c7 : x3 = 7
                  · exact ⟨_, P80_2 (s90 _) (P49_8 c7), by rw [← G (j := 9) (f := 43) rfl (by decide)]; exact P145_9 (m143 _) (by decide) c7 hb8⟩
                  · exact ⟨-1, P80_2 (s90 _) (P49_9 c0 c1 c2 c3 c4 c5 c6 c7), P145_10 (m143 _) (by decide) c0 c1 c2 c3 c4 c5 c6 c7⟩
  · exact ⟨-1, P80_1 (s90 _), P145_1 (m143 _) rfl⟩
theorem look_partition (h : KI b σ0 μ0 σ μ) (hb : b < 2 ^ 31) : LK σ μ (Sp (d + 5) 81 [.inr (some (6, 0)), .inl x1, .inl x2] σ) (Sp (e + 2) 146 [.inr (some (7, 0)), .inl x1, .inl x2] μ) := by
  have hT := h.thr 0
  rcases part_cases x1 with ⟨p, hp, rfl, s89, hin⟩ | ⟨s89, hin⟩
  · obtain ⟨N, hN, hc⟩ := h.cnt hp
    have ep := nI_clamp (n := p) (by omega)
    have hpb : ¬ (nI p < 0 ∨ 4 ≤ (nI p).toNatClampNeg) := nI_in hp (by decide)
    have hm : mq_up μ 7 0 0 0 10 8 p = nI N := (hT.1.1.cnt hp).trans hc
    have s133 := S133 (d := e) (p := p) (μ := mq_up μ 7 0 0 0) hp hN hm
    by_cases h0 : x2 < 0
    · have ne : ∀ k : Nat, k < 4 → ¬ x2 = nI k := fun k hk ee => by rw [ee] at h0; exact nI_pos (by omega) h0
      have hs0 : ¬ (¬ x2 - 4 < 0 ∧ x2 - 4 < 4) → True := fun _ => trivial
      have s39 : ∃ w, (∀ d σ, Sp (d + 1) 39 [.inl (x2 - 4)] σ (rI w) σ) ∧ w = 0 := by
        rcases sem_cases (x := x2 - 4) with ⟨s, hs, hx, -, -⟩ | ⟨s39, -⟩
        · exfalso
          have hx2 : x2 = nI (s + 4) := by
            have t : x2 - 4 + 4 = x2 := Int32.sub_add_cancel x2 4
            rw [hx, show (4 : Int32) = nI 4 from rfl, nI_add] at t
            exact t.symm
          rw [hx2] at h0
          exact nI_pos (by omega) h0
        · exact ⟨0, s39, rfl⟩
      obtain ⟨w, s39, rfl⟩ := s39
      exact ⟨-1, P81_2 (s89 _ _) (P26_6 (ne 0 (by decide)) (ne 1 (by decide)) (ne 2 (by decide)) (ne 3 (by decide)) (s39 _ _) rfl), P146_2 S101 (by rw [hin]; decide) S101 (in01_0 (fun c => c.1 h0))⟩
    · obtain ⟨k, hk, rfl⟩ := nI_of h0
      have in8 : k < 8 → in01 (nI k) 8 = 1 := fun z => in01_1 h0 ((nI_ltI (b := 8) hk (by decide)).mpr z)
      rcases (show k = 0 ∨ k = 1 ∨ k = 2 ∨ k = 3 ∨ (4 ≤ k ∧ k < 8) ∨ 8 ≤ k by omega) with rfl | rfl | rfl | rfl | hk8 | hk8
      · have e8 : mq_up μ 7 0 0 0 31 0 (nI p).toNatClampNeg = σ 4 p 8 := by rw [ep]; exact hT.1.1.get (lk_4 (j := 8) hp rfl)
        by_cases hs : σ 4 p 8 = 0
        · exact ⟨0, P81_2 (s89 _ _) (P26_1 rfl hs), P146_4 S101 (by rw [hin]; decide) S101 (by rw [in8 (by decide)]; decide) (by decide) s133 rfl hpb (by rw [e8]; exact hs)⟩
        · exact ⟨1, P81_2 (s89 _ _) (P26_2 rfl hs), P146_5 S101 (by rw [hin]; decide) S101 (by rw [in8 (by decide)]; decide) (by decide) s133 rfl hpb (by rw [e8]; exact hs)⟩
      · have t := P146_6 (d := e + 1) (σ := μ) (x1 := nI p) (x2 := nI 1) S101 (by rw [hin]; decide) S101 (by rw [in8 (by decide)]; decide) (by decide) s133 (by decide) rfl hpb
        rw [ep, hm, ← hc] at t
        exact ⟨_, P81_2 (s89 _ _) (P26_3 rfl), t⟩
      · have s31 := S31 (d := d) (p := p) (σ := σ) (x1 := 1) (x2 := -1) hN hc
        have hfe := first_eq (N := N) hT.1 hb hp hN
        cases hq : bst (okC σ p 1 (-1)) (fun q r => ldC σ (8 * p + q) (8 * p + r)) N with
        | none =>
          rw [hq] at s31 hfe
          rw [← hfe] at s133
          exact ⟨-1, P81_2 (s89 _ _) (P26_4 rfl (P38_1 s31)), P146_7 S101 (by rw [hin]; decide) S101 (by rw [in8 (by decide)]; decide) (by decide) s133 (by decide) (by decide) rfl rfl⟩
        | some q =>
          have hqN := (bst_ok hq).1
          rw [hq] at s31 hfe
          rw [← hfe] at s133
          have s133 : Sp (e + 1) 133 [.inr (some (7, 0)), .inl (nI p)] (mq_up μ 7 0 0 0) (rI (nI (8 * p + q))) (mq_up μ 7 0 0 0) := s133
          have t := P146_8 (d := e + 1) (σ := μ) (x1 := nI p) (x2 := nI 2) S101 (by rw [hin]; decide) S101 (by rw [in8 (by decide)]; decide) (by decide) s133 (by decide) (by decide) rfl (nI_m1 (by omega))
          have hrem : nI (8 * p + q) - nI (8 * p + q) / 8 * 8 = nI q := by
            have t := pk_rem (a := 8 * p + q) (d := 8) (by omega) (by decide) (by decide)
            rw [show (8 * p + q) % 8 = q by omega] at t
            exact t
          rw [hrem, ← h.2.1.1.2.1 p q hp (by omega)] at t
          exact ⟨_, P81_2 (s89 _ _) (P26_4 rfl (P38_2 s31)), t⟩
      · have t := P146_9 (d := e + 1) (σ := μ) (x1 := nI p) (x2 := nI 3) S101 (by rw [hin]; decide) S101 (by rw [in8 (by decide)]; decide) (by decide) s133 (by decide) (by decide) (by decide) hpb
        have e7 : mq_up μ 7 0 0 0 10 9 (nI p).toNatClampNeg = σ 4 p 7 := by rw [ep]; exact hT.1.1.get (lk_4 (j := 7) hp rfl)
        rw [e7] at t
        exact ⟨_, P81_2 (s89 _ _) (P26_5 rfl), t⟩
      · obtain ⟨s, hs, rfl⟩ : ∃ s, s < 4 ∧ k = s + 4 := ⟨k - 4, by omega, by omega⟩
        have ne : ∀ j : Nat, j < 4 → ¬ nI (s + 4) = nI j := fun j hj ee => absurd ((nI_eq (by omega) (by omega)).mp ee) (by omega)
        have ex : nI (s + 4) - 4 = nI s := i_of_add (by rw [show (4 : Int32) = nI 4 from rfl, nI_add])
        have es := nI_clamp (n := s) (by omega)
        rcases sem_cases (x := nI s) with ⟨s', hs', -, s39, -⟩ | ⟨-, hin0⟩
        · have t1 := P26_7 (d := d + 3) (r0 := p) (σ := σ) (x1 := nI (s + 4)) (ne 0 (by decide)) (ne 1 (by decide)) (ne 2 (by decide)) (ne 3 (by decide)) (by rw [ex]; exact s39 _ _) (by decide) (by rw [ex]; exact nI_in hs (by decide))
          rw [ex, es] at t1
          have e4 : 4 * nI p + nI (s + 4) - 4 = nI (4 * p + s) := i_of_add (by rw [ix4, show (4 : Int32) = nI 4 from rfl, nI_add]; rfl)
          have t2 := P146_3 (d := e + 1) (σ := μ) (x1 := nI p) (x2 := nI (s + 4)) S101 (by rw [hin]; decide) S101 (by rw [in8 (by omega)]; decide) ((nI_ltI (a := 3) (by decide) (by omega)).mpr (by omega)) (by rw [e4]; exact nI_in (by omega) (by decide))
          rw [e4, nI_clamp (by omega), hT.1.1.get (lk_s hp hs)] at t2
          exact ⟨_, P81_2 (s89 _ _) t1, t2⟩
        · rw [show in01 (nI s) 4 = 1 from in01_1 (nI_pos (by omega)) ((nI_ltI (b := 4) (by omega) (by decide)).mpr hs)] at hin0
          exact absurd hin0 (by decide)
      · have ne : ∀ j : Nat, j < 4 → ¬ nI k = nI j := fun j hj ee => absurd ((nI_eq (by omega) (by omega)).mp ee) (by omega)
        have ex : nI k - 4 = nI (k - 4) := nI_sub (b := 4) (by omega)
        have hin8 : in01 (nI k) 8 = 0 := in01_0 (fun c => absurd ((nI_ltI (b := 8) hk (by decide)).mp c.2) (by omega))
        have hx4 : in01 (nI (k - 4)) 4 = 0 := in01_0 (fun c => absurd ((nI_ltI (b := 4) (by omega) (by decide)).mp c.2) (by omega))
        rcases sem_cases (x := nI (k - 4)) with ⟨s', hs', hx, -, hin1⟩ | ⟨s39, -⟩
        · rw [hx4] at hin1; exact absurd hin1 (by decide)
        · exact ⟨-1, P81_2 (s89 _ _) (P26_6 (ne 0 (by decide)) (ne 1 (by decide)) (ne 2 (by decide)) (ne 3 (by decide)) (by rw [ex]; exact s39 _ _) rfl), P146_2 S101 (by rw [hin]; decide) S101 hin8⟩
  · exact ⟨-1, P81_1 (s89 _ _), P146_1 S101 hin⟩
theorem look_traffic (h : KI b σ0 μ0 σ μ) : LK σ μ (Sp (d + 2) 82 [.inr (some (6, 0)), .inl x1, .inl x2] σ) (Sp (e + 2) 147 [.inr (some (7, 0)), .inl x1, .inl x2] μ) := by
  have hT := h.thr 0
  rcases chan_cases (x := x1) hT with ⟨c, hc, rfl, s91, hin⟩ | ⟨s91, hin⟩
  · have ec := nI_clamp (n := c) (by omega)
    have hcb : ¬ (nI c < 0 ∨ 8 ≤ (nI c).toNatClampNeg) := nI_in hc (by decide)
    have hin : in01 (nI c) (μ 7 0 28) = 1 := hin
    have e15 : mq_up μ 7 0 0 0 11 15 (nI c).toNatClampNeg = σ 0 c 6 := by rw [ec]; exact hT.1.1.get (lk_0 (j := 6) hc rfl)
    have e32 : mq_up μ 7 0 0 0 32 0 (nI c).toNatClampNeg = σ 0 c 1 := by rw [ec]; exact hT.1.1.get (lk_0 (j := 1) hc rfl)
    obtain ⟨hd, n, q1, q2, q3, q4, q5, q6, q7⟩ := hT.2.1.2.2.2.1 c hc
    by_cases c0 : x2 = 0
    · exact ⟨_, P82_2 (s91 _) (P6_1 c0), by rw [← e15]; exact P147_2 S101 (by rw [hin]; decide) c0 hcb⟩
    · by_cases c1 : x2 = 1
      · by_cases hq : σ 0 c 1 = 0
        · obtain ⟨r1, r2, r3, r4⟩ := q6 hq
          by_cases hn : n = 0
          · rw [hn] at q4
            refine ⟨-1, by rw [← r3 hn]; exact P82_2 (s91 _) (P6_2 c1), P147_4 S101 (by rw [hin]; decide) c0 c1 hcb (by rw [e32]; exact hq) (by rw [e15, q4]; decide)⟩
          · have hn1 : n = 1 := by omega
            have t := P147_3 (d := e + 1) (σ := μ) (x1 := nI c) (x2 := x2) S101 (by rw [hin]; decide) c0 c1 hcb (by rw [e32]; exact hq) (by rw [e15, q4, hn1]; decide)
            rw [ec, r4 hn1] at t
            exact ⟨_, P82_2 (s91 _) (P6_2 c1), t⟩
        · exact ⟨-1, by rw [← (q7 hq).1]; exact P82_2 (s91 _) (P6_2 c1), P147_5 S101 (by rw [hin]; decide) c0 c1 hcb (by rw [e32]; exact hq)⟩
      · exact ⟨-1, P82_2 (s91 _) (P6_3 c0 c1), P147_6 S101 (by rw [hin]; decide) c0 c1⟩
  · exact ⟨-1, P82_1 (s91 _), P147_1 S101 hin⟩
theorem look_word (h : KI b σ0 μ0 σ μ) : LK σ μ (Sp (d + 3) 83 [.inr (some (6, 0)), .inl x1, .inl x2] σ) (Sp (e + 2) 148 [.inr (some (7, 0)), .inl x1, .inl x2] μ) := by
  have hT := h.thr 0
  rcases chan_cases (x := x1) hT with ⟨c, hc, rfl, s91, hin⟩ | ⟨s91, hin⟩
  · have ec := nI_clamp (n := c) (by omega)
    have hcb : ¬ (nI c < 0 ∨ 8 ≤ (nI c).toNatClampNeg) := nI_in hc (by decide)
    have hin : in01 (nI c) (μ 7 0 28) = 1 := hin
    have e15 : mq_up μ 7 0 0 0 11 15 (nI c).toNatClampNeg = σ 0 c 6 := by rw [ec]; exact hT.1.1.get (lk_0 (j := 6) hc rfl)
    obtain ⟨hd, n, q1, q2, q3, q4, q5, q6, q7⟩ := hT.2.1.2.2.2.1 c hc
    by_cases h0 : x2 < 0
    · exact ⟨0, P83_2 (s91 _) (P5_1 h0), P148_2 S101 (by rw [hin]; decide) hcb S101 (in01_0 (fun z => z.1 h0))⟩
    · by_cases h1 : x2 < σ 0 c 6
      · obtain ⟨k, hk, rfl⟩ := nI_of h0
        have hkn : k < n := by rw [q4] at h1; exact (nI_ltI hk (by omega)).mp h1
        have hm8 : (hd + k) % 8 < 8 := Nat.mod_lt _ (by decide)
        have t := P83_2 (σ := σ) (s91 _) (P5_2 (d := d + 1) (σ := σ) h0 h1 (S7 q3 (k := k) (by omega)) (nI_in hm8 (by decide)))
        rw [nI_clamp (by omega), ← q5 k hkn] at t
        have t2 := P148_3 (d := e + 1) (σ := μ) (x1 := nI c) (x2 := nI k) S101 (by rw [hin]; decide) hcb S101 (by rw [e15, in01_1 h0 h1]; decide) (by rw [ix8]; exact nI_in (show 8 * c + k < 64 by omega) (by decide))
        rw [ix8, nI_clamp (by omega)] at t2
        exact ⟨_, t, t2⟩
      · exact ⟨0, P83_2 (s91 _) (P5_3 h0 h1), P148_2 S101 (by rw [hin]; decide) hcb S101 (by rw [e15]; exact in01_0 (fun z => h1 z.2))⟩
  · exact ⟨0, P83_1 (s91 _), P148_1 S101 hin⟩
theorem er_cls : ∀ a, a < 64 → ∀ k, k < 64 → (a < k + 1 → (nI a - 1) - nI k < 0 ∧ (nI a - 1) - nI k + 64 = nI (a + 63 - k)) ∧ (k + 1 ≤ a → (nI a - 1) - nI k = nI (a - 1 - k)) := by decide +kernel
theorem look_error (h : KI b σ0 μ0 σ μ) (hb : b < 2 ^ 30) : LK σ μ (Sp (d + 2) 84 [.inr (some (6, 0)), .inl x1, .inl x2] σ) (Sp (e + 2) 149 [.inr (some (7, 0)), .inl x1, .inl x2] μ) := by
  have hT := h.thr 0
  obtain ⟨E, a1, a2, a3, a4⟩ := h.2.2
  have he : mq_up μ 7 0 0 0 7 0 36 = nI E := (hT.1.1.get (k := 1) (i := 0) (j := 4) rfl).trans a2
  by_cases h0 : x1 < 0
  · exact ⟨-1, P84_1 (P10_1 h0), P149_1 S101 (in01_0 (fun z => z.1 h0))⟩
  · obtain ⟨k, hk, rfl⟩ := nI_of h0
    by_cases hkE : k < 64 ∧ k < E
    · have h64 : in01 (nI k) 64 = 1 := in01_1 h0 ((nI_ltI (b := 64) hk (by decide)).mpr hkE.1)
      have hlt : nI k < mq_up μ 7 0 0 0 7 0 36 := by rw [he]; exact (nI_ltI hk (by omega)).mpr hkE.2
      have hkept : nI k < σ 1 0 5 := by
        rw [a4]
        exact (nI_ltI hk (by split <;> omega)).mpr (by split <;> omega)
      obtain ⟨m, hm, hm64⟩ : ∃ m, m = (E - 1 - k) % 64 ∧ m < 64 := ⟨_, rfl, Nat.mod_lt _ (by decide)⟩
      have eM : (mq_up μ 7 0 0 0 7 0 36 - 1) - nI k - ((mq_up μ 7 0 0 0 7 0 36 - 1) - nI k) / 64 * 64 = nI m := by
        rw [he, show nI E - 1 = nI (E - 1) from nI_sub (b := 1) (by omega), nI_sub (by omega), hm]
        exact pk_rem (by omega) (by decide) (by decide)
      have em := nI_clamp (n := m) (by omega)
      have hmb : ¬ (nI m < 0 ∨ 64 ≤ (nI m).toNatClampNeg) := nI_in hm64 (by decide)
      have G : ∀ i, i < 4 → mq_up μ 7 0 0 0 14 (5 + i) m = σ 14 i m := fun i hi => hT.1.1.get (lk_e hi hm64)
      obtain ⟨b1, b2⟩ := er_cls (E % 64) (Nat.mod_lt _ (by decide)) k hkE.1
      have hcl : ∃ C : Int32 → mRz → mSg → Prop, (∀ x2, C x2 = Sp (d + 1) 10 [.inr (some (1, 0)), .inl (nI k), .inl x2] σ) ∧ C 0 (rI (σ 14 0 m)) σ ∧ C 1 (rI (σ 14 1 m)) σ ∧ C 2 (rI (σ 14 2 m)) σ ∧ C 3 (rI (σ 14 3 m)) σ ∧ ∀ x2, ¬ x2 = 0 → ¬ x2 = 1 → ¬ x2 = 2 → ¬ x2 = 3 → C x2 (rI (-1)) σ := by
        refine ⟨fun x2 => Sp (d + 1) 10 [.inr (some (1, 0)), .inl (nI k), .inl x2] σ, fun _ => rfl, ?_⟩
        by_cases hc : E % 64 < k + 1
        · obtain ⟨c1, c2⟩ := b1 hc
          have c1' : (σ 1 0 6 - 1) - nI k < 0 := by rw [a3]; exact c1
          have c2' : (σ 1 0 6 - 1) - nI k + 64 = nI m := by rw [a3, c2]; congr 1; omega
          have hb' : ¬ ((σ 1 0 6 - 1) - nI k + 64 < 0 ∨ 64 ≤ ((σ 1 0 6 - 1) - nI k + 64).toNatClampNeg) := by rw [c2']; exact hmb
          have t0 := P10_2 (d := d) (σ := σ) (x1 := nI k) (x2 := 0) h0 hkept c1' rfl hb'
          have t1 := P10_3 (d := d) (σ := σ) (x1 := nI k) (x2 := 1) h0 hkept c1' rfl hb'
          have t2 := P10_4 (d := d) (σ := σ) (x1 := nI k) (x2 := 2) h0 hkept c1' rfl hb'
          have t3 := P10_5 (d := d) (σ := σ) (x1 := nI k) (x2 := 3) h0 hkept c1' rfl hb'
          rw [c2', em] at t0 t1 t2 t3
          exact ⟨t0, t1, t2, t3, fun x2 => P10_6 h0 hkept c1'⟩
        · have c2 := b2 (by omega)
          have c2' : (σ 1 0 6 - 1) - nI k = nI m := by rw [a3, c2]; congr 1; omega
          have c1' : ¬ (σ 1 0 6 - 1) - nI k < 0 := by rw [c2']; exact nI_pos (by omega)
          have hb' : ¬ ((σ 1 0 6 - 1) - nI k < 0 ∨ 64 ≤ ((σ 1 0 6 - 1) - nI k).toNatClampNeg) := by rw [c2']; exact hmb
          have t0 := P10_7 (d := d) (σ := σ) (x1 := nI k) (x2 := 0) h0 hkept c1' rfl hb'
          have t1 := P10_8 (d := d) (σ := σ) (x1 := nI k) (x2 := 1) h0 hkept c1' rfl hb'
          have t2 := P10_9 (d := d) (σ := σ) (x1 := nI k) (x2 := 2) h0 hkept c1' rfl hb'
          have t3 := P10_10 (d := d) (σ := σ) (x1 := nI k) (x2 := 3) h0 hkept c1' rfl hb'
          rw [c2', em] at t0 t1 t2 t3
          exact ⟨t0, t1, t2, t3, fun x2 => P10_11 h0 hkept c1'⟩
      obtain ⟨C, hC, k0, k1, k2, k3, k4⟩ := hcl
      have hb' : ¬ ((mq_up μ 7 0 0 0 7 0 36 - 1) - nI k - ((mq_up μ 7 0 0 0 7 0 36 - 1) - nI k) / 64 * 64 < 0 ∨ 64 ≤ ((mq_up μ 7 0 0 0 7 0 36 - 1) - nI k - ((mq_up μ 7 0 0 0 7 0 36 - 1) - nI k) / 64 * 64).toNatClampNeg) := by rw [eM]; exact hmb
      by_cases c0 : x2 = 0
      · subst c0
        have t := P149_2 (d := e + 1) (σ := μ) (x1 := nI k) (x2 := 0) S101 (by rw [h64]; decide) hlt rfl hb'
        rw [eM, em, G 0 (by decide)] at t
        exact ⟨_, P84_1 (hC 0 ▸ k0), t⟩
      · by_cases c1 : x2 = 1
        · subst c1
          have t := P149_3 (d := e + 1) (σ := μ) (x1 := nI k) (x2 := 1) S101 (by rw [h64]; decide) hlt c0 rfl hb'
          rw [eM, em, G 1 (by decide)] at t
          exact ⟨_, P84_1 (hC 1 ▸ k1), t⟩
        · by_cases c2 : x2 = 2
          · subst c2
            have t := P149_4 (d := e + 1) (σ := μ) (x1 := nI k) (x2 := 2) S101 (by rw [h64]; decide) hlt c0 c1 rfl hb'
            rw [eM, em, G 2 (by decide)] at t
            exact ⟨_, P84_1 (hC 2 ▸ k2), t⟩
          · by_cases c3 : x2 = 3
            · subst c3
              have t := P149_5 (d := e + 1) (σ := μ) (x1 := nI k) (x2 := 3) S101 (by rw [h64]; decide) hlt c0 c1 c2 rfl hb'
              rw [eM, em, G 3 (by decide)] at t
              exact ⟨_, P84_1 (hC 3 ▸ k3), t⟩
            · exact ⟨-1, P84_1 (hC x2 ▸ k4 x2 c0 c1 c2 c3), P149_6 S101 (by rw [h64]; decide) hlt c0 c1 c2 c3⟩
    · have hC := P84_1 (d := d + 1) (x1 := nI k) (x2 := x2) (σ := σ) (P10_12 h0 (by rw [a4]; exact fun z => absurd ((nI_ltI hk (by split <;> omega)).mp z) (by split <;> omega)))
      by_cases hk64 : k < 64
      · exact ⟨-1, hC, P149_7 S101 (by rw [show in01 (nI k) 64 = 1 from in01_1 h0 ((nI_ltI (b := 64) hk (by decide)).mpr hk64)]; decide) (by rw [he]; exact fun z => absurd ((nI_ltI hk (by omega)).mp z) (by omega))⟩
      · exact ⟨-1, hC, P149_1 S101 (in01_0 (fun z => absurd ((nI_ltI (b := 64) hk (by decide)).mp z.2) (by omega)))⟩
theorem look_about (h : KI b σ0 μ0 σ μ) (hb : b < 2 ^ 30) : LK σ μ (Sp (d + 2) 85 [.inr (some (6, 0)), .inl x1] σ) (Sp (e + 2) 150 [.inr (some (7, 0)), .inl x1] μ) := by
  have hT := h.thr 0
  by_cases c0 : x1 = 0
  · exact ⟨_, P85_1 c0, by rw [← hT.time]; exact P150_1 c0⟩
  · by_cases c1 : x1 = 1
    · exact ⟨_, P85_2 c1, by rw [← h.1.1.get (k := 1) (i := 0) (j := 4) (σ := σ) rfl]; exact P150_2 c0 c1⟩
    · by_cases c2 : x1 = 2
      · exact ⟨_, P85_3 c2, by rw [← h.1.1.get (k := 6) (i := 0) (j := 6) (σ := σ) rfl]; exact P150_3 c0 c1 c2⟩
      · by_cases c3 : x1 = 3
        · have e7 : μ 7 0 1 = σ 6 0 7 := h.1.1.get (k := 6) (i := 0) (j := 7) rfl
          by_cases hb7 : σ 6 0 7 = 0
          · exact ⟨-1, P85_4 c3 hb7, P150_4 c0 c1 c2 c3 (by rw [e7]; exact hb7)⟩
          · obtain ⟨p, hp, o1, o2⟩ := owner_both hT hb hb7
            exact ⟨_, P85_5 c3 hb7 (o1 _), P150_5 c0 c1 c2 c3 (by rw [e7]; exact hb7) (o2 _)⟩
        · exact ⟨-1, P85_6 c0 c1 c2 c3, P150_6 c0 c1 c2 c3⟩
end LOOKS
