/-! The looks: class and reference answer alike. -/
theorem i_sub3 (x y z : Int32) : x - y - z = x - (y + z) := by
  apply Int32.toBitVec_inj.mp
  rw [Int32.toBitVec_sub, Int32.toBitVec_sub, Int32.toBitVec_sub, Int32.toBitVec_add, BitVec.sub_sub]
theorem i_of_add {x y z : Int32} (h : x + y = z) : z - y = x := by rw [← h, Int32.add_sub_cancel]
theorem nI_sub {a b : Nat} (h : b ≤ a) : nI a - nI b = nI (a - b) := i_of_add (by rw [nI_add, Nat.sub_add_cancel h])
section LOOKS
variable {d e b p : Nat} {σ μ σ0 μ0 : mSg} {x1 x2 x3 : Int32}
theorem KI.thr (h : KI b σ0 μ0 σ μ) (v : Int32) : KI b σ (mq_up μ 7 0 0 v) σ (mq_up μ 7 0 0 v) :=
  ⟨⟨h.1.1.thr v, h.1.2.1, og_eq h.1.2.2 (fun _ => rfl) (fun _ => rfl) (fun _ => rfl) (fun _ => rfl) rfl⟩, h.2.1.frame RFc.rf (RFm.up rfl) (Nat.le_refl _), h.2.2⟩
theorem part_cases (x : Int32) : (∃ p, p < 4 ∧ x = nI p ∧ (∀ d σ, Sp (d + 2) 89 [.inr (some (6, 0)), .inl x] σ (.inl (some (.inr (some (4, p))))) σ) ∧ in01 x 4 = 1) ∨ ((∀ d σ, Sp (d + 2) 89 [.inr (some (6, 0)), .inl x] σ (.inl (some (.inr none))) σ) ∧ in01 x 4 = 0) := by
  by_cases h0 : x < 0
  · exact Or.inr ⟨fun d σ => P89_1 S86 (in01_0 (fun c => c.1 h0)), in01_0 (fun c => c.1 h0)⟩
  · by_cases h1 : x < 4
    · obtain ⟨p, hp, rfl⟩ := of_lt (n := 4) (by decide) h0 h1
      exact Or.inl ⟨p, hp, rfl, fun d σ => S89 hp, in01_1 h0 h1⟩
    · exact Or.inr ⟨fun d σ => P89_1 S86 (in01_0 (fun c => h1 c.2)), in01_0 (fun c => h1 c.2)⟩
/-- both answer v, and nothing else happens but that nothing was thrown -/
def LK (σ μ : mSg) (C M : mRz → mSg → Prop) : Prop := ∃ v, C (rI v) σ ∧ M (rI v) (mq_up μ 7 0 0 0)
theorem look_peek (h : KI b σ0 μ0 σ μ) : LK σ μ (Sp (d + 3) 78 [.inr (some (6, 0)), .inl x1, .inl x2] σ) (Sp (e + 3) 142 [.inr (some (7, 0)), .inl x1, .inl x2] μ) := by
  have hT := h.thr 0
  rcases part_cases x1 with ⟨p, hp, rfl, s89, hin⟩ | ⟨s89, hin⟩
  · rcases place_both (s := 4) x2 (Or.inr (Or.inr rfl)) with ⟨n, hn, hn4, rfl, c16, c107⟩ | ⟨c16, c107⟩
    · exact ⟨_, P78_2 (s89 _ _) (S17 hn hn4), P142_3 S101 (by rw [hin]; decide) (c107 _ _) (by decide) (load4 hT hp hn hn4)⟩
    · exact ⟨0, P78_2 (s89 _ _) (P17_1 (c16 _ _) rfl), P142_2 S101 (by rw [hin]; decide) (c107 _ _) rfl⟩
  · exact ⟨0, P78_1 (s89 _ _), P142_1 S101 hin⟩
theorem proc_cases (h : KI b σ0 μ0 σ μ) : (∃ p q, p < 4 ∧ q < 8 ∧ x1 = nI p ∧ x2 = nI q ∧ (∀ d, Sp (d + 3) 90 [.inr (some (6, 0)), .inl x1, .inl x2] σ (.inl (some (.inr (some (5, 8 * p + q))))) σ) ∧ ∀ e, Sp (e + 2) 143 [.inr (some (7, 0)), .inl x1, .inl x2] μ (rI 1) μ) ∨ ((∀ d, Sp (d + 3) 90 [.inr (some (6, 0)), .inl x1, .inl x2] σ (.inl (some (.inr none))) σ) ∧ ∀ e, Sp (e + 2) 143 [.inr (some (7, 0)), .inl x1, .inl x2] μ (rI 0) μ) := by
  rcases part_cases x1 with ⟨p, hp, rfl, s89, hin⟩ | ⟨s89, hin⟩
  · obtain ⟨N, hN, hc⟩ := h.cnt hp
    have hm : μ 10 8 p = nI N := (h.1.1.cnt hp).trans hc
    have hpb : ¬ (nI p < 0 ∨ 4 ≤ (nI p).toNatClampNeg) := nI_in hp (by decide)
    rcases find_cases (x := x2) hN hc hm hp with ⟨r, hr, rfl, s24, hin2⟩ | ⟨s24, hin2⟩
    · exact Or.inl ⟨p, r, hp, by omega, rfl, rfl, fun d => P90_3 (s89 _ _) (s24 _), fun e => P143_3 S101 (by rw [hin]; decide) hpb S101 (by rw [hin2]; decide)⟩
    · exact Or.inr ⟨fun d => P90_2 (s89 _ _) (s24 _), fun e => P143_2 S101 (by rw [hin]; decide) hpb S101 hin2⟩
  · exact Or.inr ⟨fun d => P90_1 (s89 _ _), fun e => P143_1 S101 hin⟩
theorem look_register (h : KI b σ0 μ0 σ μ) : LK σ μ (Sp (d + 4) 79 [.inr (some (6, 0)), .inl x1, .inl x2, .inl x3] σ) (Sp (e + 3) 144 [.inr (some (7, 0)), .inl x1, .inl x2, .inl x3] μ) := by
  have hT := h.thr 0
  rcases proc_cases (x1 := x1) (x2 := x2) hT with ⟨p, q, hp, hq, rfl, rfl, s90, m143⟩ | ⟨s90, m143⟩
  · by_cases h0 : x3 < 0
    · exact ⟨0, P79_2 (s90 _) (P43_1 h0), P144_2 (m143 _) (by decide) S101 (in01_0 (fun c => c.1 h0))⟩
    · by_cases h1 : x3 < 32
      · obtain ⟨r, hr, rfl⟩ := of_lt (n := 32) (by decide) h0 h1
        have e1 : (32 * (8 * nI p + nI q) + nI r).toNatClampNeg = 32 * (8 * p + q) + r := by rw [ix8, ix32]; exact nI_clamp (by omega)
        have t := P144_3 (d := e + 2) (σ := μ) (x1 := nI p) (x2 := nI q) (x3 := nI r) (m143 _) (by decide) S101 (by rw [show in01 (nI r) 32 = 1 from in01_1 h0 h1]; decide) (by rw [ix8, ix32]; exact nI_in (by omega) (by decide))
        rw [e1, hT.1.1.get (lk_r (show 8 * p + q < 32 by omega) hr)] at t
        exact ⟨_, P79_2 (s90 _) (S43 hr), t⟩
      · exact ⟨0, P79_2 (s90 _) (P43_3 h0 h1), P144_2 (m143 _) (by decide) S101 (in01_0 (fun c => h1 c.2))⟩
  · exact ⟨0, P79_1 (s90 _), P144_1 (m143 _) rfl⟩
theorem look_state (h : KI b σ0 μ0 σ μ) : LK σ μ (Sp (d + 4) 80 [.inr (some (6, 0)), .inl x1, .inl x2, .inl x3] σ) (Sp (e + 3) 145 [.inr (some (7, 0)), .inl x1, .inl x2, .inl x3] μ) := by
  have hT := h.thr 0
  rcases proc_cases (x1 := x1) (x2 := x2) hT with ⟨p, q, hp, hq, rfl, rfl, s90, m143⟩ | ⟨s90, m143⟩
  · have hK : 8 * p + q < 32 := by omega
    have e8 : (8 * nI p + nI q).toNatClampNeg = 8 * p + q := by rw [ix8]; exact nI_clamp (by omega)
    have hb8 : ¬ (8 * nI p + nI q < 0 ∨ 32 ≤ (8 * nI p + nI q).toNatClampNeg) := by rw [ix8]; exact nI_in (by omega) (by decide)
    have G : ∀ {j f : Nat}, lkF j = f → f ≠ 0 → mq_up μ 7 0 0 0 13 f (8 * nI p + nI q).toNatClampNeg = σ 5 (8 * p + q) j := fun {j f} hf h0 => by rw [e8]; exact hT.1.1.get (lk_p' hK j f hf h0)
    by_cases c0 : x3 = 0
    · exact ⟨_, P80_2 (s90 _) (P49_1 c0), by rw [← G (j := 7) (f := 37) rfl (by decide)]; exact P145_2 (m143 _) (by decide) c0 hb8⟩
    · by_cases c1 : x3 = 1
      · exact ⟨_, P80_2 (s90 _) (P49_2 c1), by rw [← G (j := 6) (f := 36) rfl (by decide)]; exact P145_3 (m143 _) (by decide) c1 hb8⟩
      · by_cases c2 : x3 = 2
        · exact ⟨_, P80_2 (s90 _) (P49_3 c2), by rw [← G (j := 3) (f := 33) rfl (by decide)]; exact P145_4 (m143 _) (by decide) c2 hb8⟩
        · by_cases c3 : x3 = 3
          · exact ⟨_, P80_2 (s90 _) (P49_4 c3), by rw [← G (j := 8) (f := 38) rfl (by decide)]; exact P145_5 (m143 _) (by decide) c3 hb8⟩
          · by_cases c4 : x3 = 4
            · exact ⟨_, P80_2 (s90 _) (P49_5 c4), by rw [← G (j := 10) (f := 39) rfl (by decide)]; exact P145_6 (m143 _) (by decide) c4 hb8⟩
            · by_cases c5 : x3 = 5
              · exact ⟨_, P80_2 (s90 _) (P49_6 c5), by rw [← G (j := 11) (f := 40) rfl (by decide)]; exact P145_7 (m143 _) (by decide) c5 hb8⟩
              · by_cases c6 : x3 = 6
                · exact ⟨_, P80_2 (s90 _) (P49_7 c6), by rw [← G (j := 13) (f := 42) rfl (by decide)]; exact P145_8 (m143 _) (by decide) c6 hb8⟩
                · by_cases c7 : x3 = 7
                  · exact ⟨_, P80_2 (s90 _) (P49_8 c7), by rw [← G (j := 9) (f := 43) rfl (by decide)]; exact P145_9 (m143 _) (by decide) c7 hb8⟩
                  · exact ⟨-1, P80_2 (s90 _) (P49_9 c0 c1 c2 c3 c4 c5 c6 c7), P145_10 (m143 _) (by decide) c0 c1 c2 c3 c4 c5 c6 c7⟩
  · exact ⟨-1, P80_1 (s90 _), P145_1 (m143 _) rfl⟩
theorem look_partition (h : KI b σ0 μ0 σ μ) (hb : b < 2 ^ 31) : LK σ μ (Sp (d + 5) 81 [.inr (some (6, 0)), .inl x1, .inl x2] σ) (Sp (e + 2) 146 [.inr (some (7, 0)), .inl x1, .inl x2] μ) := by
  have hT := h.thr 0
  rcases part_cases x1 with ⟨p, hp, rfl, s89, hin⟩ | ⟨s89, hin⟩
  · obtain ⟨N, hN, hc⟩ := h.cnt hp
    have ep := nI_clamp (n := p) (by omega)
    have hpb : ¬ (nI p < 0 ∨ 4 ≤ (nI p).toNatClampNeg) := nI_in hp (by decide)
    have hm : mq_up μ 7 0 0 0 10 8 p = nI N := (hT.1.1.cnt hp).trans hc
    have s133 := S133 (d := e) (p := p) (μ := mq_up μ 7 0 0 0) hp hN hm
    by_cases h0 : x2 < 0
    · have ne : ∀ k : Nat, k < 4 → ¬ x2 = nI k := fun k hk ee => by rw [ee] at h0; exact nI_pos (by omega) h0
      have hs0 : ¬ (¬ x2 - 4 < 0 ∧ x2 - 4 < 4) → True := fun _ => trivial
      have s39 : ∃ w, (∀ d σ, Sp (d + 1) 39 [.inl (x2 - 4)] σ (rI w) σ) ∧ w = 0 := by
        rcases sem_cases (x := x2 - 4) with ⟨s, hs, hx, -, -⟩ | ⟨s39, -⟩
        · exfalso
          have hx2 : x2 = nI (s + 4) := by
            have t : x2 - 4 + 4 = x2 := Int32.sub_add_cancel x2 4
            rw [hx, show (4 : Int32) = nI 4 from rfl, nI_add] at t
            exact t.symm
          rw [hx2] at h0
          exact nI_pos (by omega) h0
        · exact ⟨0, s39, rfl⟩
      obtain ⟨w, s39, rfl⟩ := s39
      exact ⟨-1, P81_2 (s89 _ _) (P26_6 (ne 0 (by decide)) (ne 1 (by decide)) (ne 2 (by decide)) (ne 3 (by decide)) (s39 _ _) rfl), P146_2 S101 (by rw [hin]; decide) S101 (in01_0 (fun c => c.1 h0))⟩
    · obtain ⟨k, hk, rfl⟩ := nI_of h0
      have in8 : k < 8 → in01 (nI k) 8 = 1 := fun z => in01_1 h0 ((nI_ltI (b := 8) hk (by decide)).mpr z)
      rcases (show k = 0 ∨ k = 1 ∨ k = 2 ∨ k = 3 ∨ (4 ≤ k ∧ k < 8) ∨ 8 ≤ k by omega) with rfl | rfl | rfl | rfl | hk8 | hk8
      · have e8 : mq_up μ 7 0 0 0 31 0 (nI p).toNatClampNeg = σ 4 p 8 := by rw [ep]; exact hT.1.1.get (lk_4 (j := 8) hp rfl)
        by_cases hs : σ 4 p 8 = 0
        · exact ⟨0, P81_2 (s89 _ _) (P26_1 rfl hs), P146_4 S101 (by rw [hin]; decide) S101 (by rw [in8 (by decide)]; decide) (by decide) s133 rfl hpb (by rw [e8]; exact hs)⟩
        · exact ⟨1, P81_2 (s89 _ _) (P26_2 rfl hs), P146_5 S101 (by rw [hin]; decide) S101 (by rw [in8 (by decide)]; decide) (by decide) s133 rfl hpb (by rw [e8]; exact hs)⟩
      · have t := P146_6 (d := e + 1) (σ := μ) (x1 := nI p) (x2 := nI 1) S101 (by rw [hin]; decide) S101 (by rw [in8 (by decide)]; decide) (by decide) s133 (by decide) rfl hpb
        rw [ep, hm, ← hc] at t
        exact ⟨_, P81_2 (s89 _ _) (P26_3 rfl), t⟩
      · have s31 := S31 (d := d + 1) (p := p) (σ := σ) (x1 := 1) (x2 := -1) hN hc
        have hfe := first_eq (N := N) hT.1 hb hp hN
        cases hq : bst (okC σ p 1 (-1)) (fun q r => ldC σ (8 * p + q) (8 * p + r)) N with
        | none =>
          rw [hq] at s31 hfe
          rw [← hfe] at s133
          exact ⟨-1, P81_2 (s89 _ _) (P26_4 rfl (P38_1 s31)), P146_7 S101 (by rw [hin]; decide) S101 (by rw [in8 (by decide)]; decide) (by decide) s133 (by decide) (by decide) rfl rfl⟩
        | some q =>
          have hqN := (bst_ok hq).1
          rw [hq] at s31 hfe
          rw [← hfe] at s133
          have s133 : Sp (e + 1) 133 [.inr (some (7, 0)), .inl (nI p)] (mq_up μ 7 0 0 0) (rI (nI (8 * p + q))) (mq_up μ 7 0 0 0) := s133
          have t := P146_8 (d := e + 1) (σ := μ) (x1 := nI p) (x2 := nI 2) S101 (by rw [hin]; decide) S101 (by rw [in8 (by decide)]; decide) (by decide) s133 (by decide) (by decide) rfl (nI_m1 (by omega))
          have hrem : nI (8 * p + q) - nI (8 * p + q) / 8 * 8 = nI q := by
            have t := pk_rem (a := 8 * p + q) (d := 8) (by omega) (by decide) (by decide)
            rw [show (8 * p + q) % 8 = q by omega] at t
            exact t
          rw [hrem, ← h.2.1.1.2.1 p q hp (by omega)] at t
          exact ⟨_, P81_2 (s89 _ _) (P26_4 rfl (P38_2 s31)), t⟩
      · have t := P146_9 (d := e + 1) (σ := μ) (x1 := nI p) (x2 := nI 3) S101 (by rw [hin]; decide) S101 (by rw [in8 (by decide)]; decide) (by decide) s133 (by decide) (by decide) (by decide) hpb
        have e7 : mq_up μ 7 0 0 0 10 9 (nI p).toNatClampNeg = σ 4 p 7 := by rw [ep]; exact hT.1.1.get (lk_4 (j := 7) hp rfl)
        rw [e7] at t
        exact ⟨_, P81_2 (s89 _ _) (P26_5 rfl), t⟩
      · obtain ⟨s, hs, rfl⟩ : ∃ s, s < 4 ∧ k = s + 4 := ⟨k - 4, by omega, by omega⟩
        have ne : ∀ j : Nat, j < 4 → ¬ nI (s + 4) = nI j := fun j hj ee => absurd ((nI_eq (by omega) (by omega)).mp ee) (by omega)
        have ex : nI (s + 4) - 4 = nI s := i_of_add (by rw [show (4 : Int32) = nI 4 from rfl, nI_add])
        have es := nI_clamp (n := s) (by omega)
        rcases sem_cases (x := nI s) with ⟨s', hs', -, s39, -⟩ | ⟨-, hin0⟩
        · have t1 := P26_7 (d := d + 3) (r0 := p) (σ := σ) (x1 := nI (s + 4)) (ne 0 (by decide)) (ne 1 (by decide)) (ne 2 (by decide)) (ne 3 (by decide)) (by rw [ex]; exact s39 _ _) (by decide) (by rw [ex]; exact nI_in hs (by decide))
          rw [ex, es] at t1
          have e4 : 4 * nI p + nI (s + 4) - 4 = nI (4 * p + s) := i_of_add (by rw [ix4, show (4 : Int32) = nI 4 from rfl, nI_add]; rfl)
          have t2 := P146_3 (d := e + 1) (σ := μ) (x1 := nI p) (x2 := nI (s + 4)) S101 (by rw [hin]; decide) S101 (by rw [in8 (by omega)]; decide) ((nI_ltI (a := 3) (by decide) (by omega)).mpr (by omega)) (by rw [e4]; exact nI_in (by omega) (by decide))
          rw [e4, nI_clamp (by omega), hT.1.1.get (lk_s hp hs)] at t2
          exact ⟨_, P81_2 (s89 _ _) t1, t2⟩
        · rw [show in01 (nI s) 4 = 1 from in01_1 (nI_pos (by omega)) ((nI_ltI (b := 4) (by omega) (by decide)).mpr hs)] at hin0
          exact absurd hin0 (by decide)
      · have ne : ∀ j : Nat, j < 4 → ¬ nI k = nI j := fun j hj ee => absurd ((nI_eq (by omega) (by omega)).mp ee) (by omega)
        have ex : nI k - 4 = nI (k - 4) := nI_sub (b := 4) (by omega)
        have hin8 : in01 (nI k) 8 = 0 := in01_0 (fun c => absurd ((nI_ltI (b := 8) hk (by decide)).mp c.2) (by omega))
        have hx4 : in01 (nI (k - 4)) 4 = 0 := in01_0 (fun c => absurd ((nI_ltI (b := 4) (by omega) (by decide)).mp c.2) (by omega))
        rcases sem_cases (x := nI (k - 4)) with ⟨s', hs', hx, -, hin1⟩ | ⟨s39, -⟩
        · rw [hx4] at hin1; exact absurd hin1 (by decide)
        · exact ⟨-1, P81_2 (s89 _ _) (P26_6 (ne 0 (by decide)) (ne 1 (by decide)) (ne 2 (by decide)) (ne 3 (by decide)) (by rw [ex]; exact s39 _ _) rfl), P146_2 S101 (by rw [hin]; decide) S101 hin8⟩
  · exact ⟨-1, P81_1 (s89 _ _), P146_1 S101 hin⟩
end LOOKS
