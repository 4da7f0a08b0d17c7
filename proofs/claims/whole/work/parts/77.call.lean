/-! A process's call, whole. -/
section CALL
variable {d e b p q : Nat} {σ μ σ0 μ0 : mSg}
theorem call_both (h : KI b σ0 μ0 σ μ) (hb : b < 2 ^ 28) (hbg : ¬ σ 6 0 7 = 0) (hp : p < 4) (hq : q < 8) (hr : σ 5 (8 * p + q) 7 = 1) :
    (∃ k : Nat, k < 4 ∧ Sp (d + 5) 95 [.inr (some (6, 0)), .inr (some (4, p)), .inr (some (5, 8 * p + q))] σ (rI (nI k)) σ ∧ Sp (e + 4) 129 [.inr (some (7, 0)), .inl (nI p), .inl (nI (8 * p + q))] μ (rI (nI k)) μ) ∨
    ∃ σ1 μ1, Sp (d + 5) 95 [.inr (some (6, 0)), .inr (some (4, p)), .inr (some (5, 8 * p + q))] σ (rI (-1)) σ1 ∧ Sp (e + 4) 129 [.inr (some (7, 0)), .inl (nI p), .inl (nI (8 * p + q))] μ (rI (-1)) μ1 ∧ KI (b + 1) σ0 μ0 σ1 μ1 ∧ μ1 7 0 43 = μ 7 0 43 ∧ μ1 13 36 (8 * p + q) = μ1 7 0 41 ∧ ∀ j, σ1 6 0 j = σ 6 0 j := by
  have hK : 8 * p + q < 32 := by omega
  have hK0 : ∃ K, K = 8 * p + q := ⟨_, rfl⟩
  obtain ⟨K, eK0⟩ := hK0
  rw [← eK0] at hK hr ⊢
  have eK := nI_clamp (n := K) (by omega)
  have hkb : ¬ (nI K < 0 ∨ 32 ≤ (nI K).toNatClampNeg) := nI_in hK (by decide)
  have E : ∀ r, r < 32 → (32 * nI K + nI r).toNatClampNeg = 32 * K + r := fun r hr => by rw [ix32]; exact nI_clamp (by omega)
  have B : ∀ r, r < 32 → ¬ (32 * nI K + nI r < 0 ∨ 1024 ≤ (32 * nI K + nI r).toNatClampNeg) := fun r hr => by rw [ix32]; exact nI_in (by omega) (by decide)
  have G : ∀ r, r < 32 → μ 16 0 (32 * nI K + nI r).toNatClampNeg = σ 13 K r := fun r hr => by rw [E r hr]; exact h.1.1.get (lk_r hK hr)
  have b10 := B 10 (by decide)
  have b11 := B 11 (by decide)
  have b17 := B 17 (by decide)
  have g17 := G 17 (by decide)
  have g10 := G 10 (by decide)
  have g11 := G 11 (by decide)
  have e10 := E 10 (by decide)
  have e36 : μ 13 36 K = σ 5 K 6 := h.1.1.get (lk_p' hK 6 36 rfl)
  have s17 : Sp (d + 4) 43 [.inr (some (5, K)), .inl 17] σ (rI (σ 13 K 17)) σ := S43 (r := 17) (by decide)
  by_cases w10 : σ 13 K 17 = 10
  · exact Or.inl ⟨3, by decide, P95_1 s17 w10, P129_1 b10 b11 b17 (by rw [show (17 : Int32) = nI 17 from rfl, g17]; exact w10)⟩
  · have m10 : ¬ μ 16 0 (32 * nI K + 17).toNatClampNeg = 10 := by rw [show (17 : Int32) = nI 17 from rfl, g17]; exact w10
    by_cases wlt : σ 13 K 17 < 0
    · exact Or.inl ⟨0, by decide, P95_2 s17 w10 wlt, P129_2 b10 b11 b17 m10 (by rw [show (17 : Int32) = nI 17 from rfl, g17]; exact wlt)⟩
    · have mlt : ¬ μ 16 0 (32 * nI K + 17).toNatClampNeg < 0 := by rw [show (17 : Int32) = nI 17 from rfl, g17]; exact wlt
      by_cases wgt : 10 < σ 13 K 17
      · exact Or.inl ⟨0, by decide, P95_3 s17 w10 wlt wgt, P129_3 b10 b11 b17 m10 mlt (by rw [show (17 : Int32) = nI 17 from rfl, g17]; exact wgt)⟩
      · right
        have mgt : ¬ 10 < μ 16 0 (32 * nI K + 17).toNatClampNeg := by rw [show (17 : Int32) = nI 17 from rfl, g17]; exact wgt
        have mw : ∀ c : Int32, μ 16 0 (32 * nI K + 17).toNatClampNeg = c ↔ σ 13 K 17 = c := fun c => by rw [show (17 : Int32) = nI 17 from rfl, g17]
        -- the pc goes on
        have h1 : KI b σ0 μ0 (mq_up σ 5 K 6 (σ 5 K 6 + 4)) (mq_up (mq_up μ 13 36 K (σ 5 K 6 + 4)) 7 0 41 (σ 5 K 6 + 4)) := (h.fld (j := 6) hK rfl (by decide) (Or.inr (Or.inl rfl)) _).scr (Or.inl rfl) _
        have hr1 : mq_up σ 5 K 6 (σ 5 K 6 + 4) 5 K 7 = 1 := by rw [up_nj (by decide)]; exact hr
        have hμp : mq_up (mq_up μ 13 36 (nI K).toNatClampNeg (μ 13 36 (nI K).toNatClampNeg + 4)) 7 0 41 (mq_up μ 13 36 (nI K).toNatClampNeg (μ 13 36 (nI K).toNatClampNeg + 4) 13 36 (nI K).toNatClampNeg) = mq_up (mq_up μ 13 36 K (σ 5 K 6 + 4)) 7 0 41 (σ 5 K 6 + 4) := by rw [eK, e36, up_eq]
        have hp6 : mq_up σ 5 K 6 (σ 5 K 6 + 4) 5 K 6 = σ 5 K 6 + 4 := up_eq _ _ _ _ _
        generalize hσp : mq_up σ 5 K 6 (σ 5 K 6 + 4) = σp at h1 hr1 hp6
        have hbg1 : ¬ σp 6 0 7 = 0 := by rw [← hσp]; exact hbg
        have r10 : σp 13 K 10 = σ 13 K 10 := by rw [← hσp]; rfl
        have r11 : σp 13 K 11 = σ 13 K 11 := by rw [← hσp]; rfl
        have q41 : mq_up (mq_up μ 13 36 K (σ 5 K 6 + 4)) 7 0 41 (σ 5 K 6 + 4) 7 0 41 = σ 5 K 6 + 4 := rfl
        have q43 : mq_up (mq_up μ 13 36 K (σ 5 K 6 + 4)) 7 0 41 (σ 5 K 6 + 4) 7 0 43 = μ 7 0 43 := rfl
        generalize hμ : mq_up (mq_up μ 13 36 K (σ 5 K 6 + 4)) 7 0 41 (σ 5 K 6 + 4) = μp at h1 hμp q41 q43
        have a10 : ∀ d, Sp (d + 1) 43 [.inr (some (5, K)), .inl 10] σp (rI (σ 13 K 10)) σp := fun d => by rw [← r10]; exact S43 (r := 10) (by decide)
        have a11 : ∀ d, Sp (d + 1) 43 [.inr (some (5, K)), .inl 11] σp (rI (σ 13 K 11)) σp := fun d => by rw [← r11]; exact S43 (r := 11) (by decide)
        by_cases w0 : σ 13 K 17 = 0
        · have t1 := h1.proc (h1.1.rest hp hq) pf_rest mf_sleep (by omega)
          rw [← eK0] at t1
          refine ⟨_, _, P95_4 s17 w10 wlt wgt w0 (by rw [hσp]; exact S29), P129_4 b10 b11 b17 m10 mlt mgt hkb ((mw 0).mpr w0) (by rw [hμp]; exact S104 hK), t1, q43, ?_, fun j => by show σp 6 0 j = _; rw [← hσp]; rfl⟩
          show μp 13 36 K = μp 7 0 41
          rw [q41, ← hp6]
          exact h1.1.1.get (lk_p' hK 6 36 rfl)
        · -- a call with an answer
          have n0 : ¬ μ 16 0 (32 * nI K + 17).toNatClampNeg = 0 := fun c => w0 ((mw 0).mp c)
          have fin : ∀ (C M : mRz → mSg → Prop), SV b σ0 μ0 σp μp K C M → (∀ x ω, C (rI x) ω → Sp (d + 4) 96 [.inr (some (6, 0)), .inl (σ 13 K 17), .inr (some (4, p)), .inr (some (5, K))] σp (rI x) ω) → (∀ x ω, M (rI x) ω → Sp (e + 4) 129 [.inr (some (7, 0)), .inl (nI p), .inl (nI K)] μ (rI (-1)) (mq_up ω 16 0 (32 * nI K + 10).toNatClampNeg x)) →
              ∃ σ1 μ1, Sp (d + 5) 95 [.inr (some (6, 0)), .inr (some (4, p)), .inr (some (5, K))] σ (rI (-1)) σ1 ∧ Sp (e + 4) 129 [.inr (some (7, 0)), .inl (nI p), .inl (nI K)] μ (rI (-1)) μ1 ∧ KI (b + 1) σ0 μ0 σ1 μ1 ∧ μ1 7 0 43 = μ 7 0 43 ∧ μ1 13 36 K = μ1 7 0 41 ∧ ∀ j, σ1 6 0 j = σ 6 0 j := fun C M hsv hC hM => by
            obtain ⟨r, σ1, μ1, v1, v2, v3, v4, v5, v6, v7⟩ := hsv
            have s44 : Sp (d + 4) 44 [.inr (some (5, K)), .inl 10, .inl r] σ1 (.inl none) (mq_up σ1 13 K 10 r) := S44 (d := d + 3) (K := K) (r := 10) (v := r) (by decide)
            have t := hM _ _ v2
            rw [show (10 : Int32) = nI 10 from rfl, e10] at t
            refine ⟨mq_up σ1 13 K 10 r, mq_up μ1 16 0 (32 * K + 10) r, P95_5 s17 w10 wlt wgt w0 (by rw [hσp]; exact hC _ _ v1) s44, t, v3.reg hK (by decide) r, v6.trans q43, ?_, fun j => (v7 j).trans (by rw [← hσp]; rfl)⟩
            show μ1 13 36 K = μ1 7 0 41
            rw [v5, q41, ← hp6, ← v4]
            exact v3.1.1.get (lk_p' hK 6 36 rfl)
          have g10' : μ 16 0 (32 * nI K + 10).toNatClampNeg = σ 13 K 10 := g10
          have g11' : μ 16 0 (32 * nI K + 11).toNatClampNeg = σ 13 K 11 := g11
          by_cases w1 : σ 13 K 17 = 1
          · have sv := sv1 (d := d + 1) (e := e + 1) h1 hp hq (by rw [← eK0]; exact hr1)
            rw [← eK0] at sv
            exact fin _ _ sv (fun x ω hc => P96_1 (a10 _) (a11 _) w1 hc) (fun x ω hm => P129_5 b10 b11 b17 m10 mlt mgt hkb n0 ((mw 1).mpr w1) (by rw [hμp]; exact hm))
          · have n1 : ¬ μ 16 0 (32 * nI K + 17).toNatClampNeg = 1 := fun c => w1 ((mw 1).mp c)
            by_cases w2 : σ 13 K 17 = 2
            · have sv := sv2 (d := d + 1) (e := e + 1) (x := σ 13 K 10) h1 hp hq (by rw [← eK0]; exact hr1)
              rw [← eK0] at sv
              exact fin _ _ sv (fun x ω hc => P96_2 (a10 _) (a11 _) w2 hc) (fun x ω hm => P129_6 b10 b11 b17 m10 mlt mgt hkb n0 n1 ((mw 2).mpr w2) (by rw [hμp, g10']; exact hm))
            · have n2 : ¬ μ 16 0 (32 * nI K + 17).toNatClampNeg = 2 := fun c => w2 ((mw 2).mp c)
              by_cases w3 : σ 13 K 17 = 3
              · exact fin _ _ (sv3 (d := d) (e := e) (x := σ 13 K 10) h1 hp hr1) (fun x ω hc => P96_3 (a10 _) (a11 _) w3 hc) (fun x ω hm => P129_7 b10 b11 b17 m10 mlt mgt hkb n0 n1 n2 ((mw 3).mpr w3) (by rw [hμp, g10']; exact hm))
              · have n3 : ¬ μ 16 0 (32 * nI K + 17).toNatClampNeg = 3 := fun c => w3 ((mw 3).mp c)
                by_cases w4 : σ 13 K 17 = 4
                · exact fin _ _ (sv4 (d := d + 1) (e := e + 1) (x := σ 13 K 10) (y := σ 13 K 11) h1 hp) (fun x ω hc => P96_4 (a10 _) (a11 _) w4 hc) (fun x ω hm => P129_8 b10 b11 b17 m10 mlt mgt hkb n0 n1 n2 n3 ((mw 4).mpr w4) (by rw [hμp, g10', g11']; exact hm))
                · have n4 : ¬ μ 16 0 (32 * nI K + 17).toNatClampNeg = 4 := fun c => w4 ((mw 4).mp c)
                  by_cases w5 : σ 13 K 17 = 5
                  · have sv : SV b σ0 μ0 σp μp K (fun r ω => r = rI (σp 6 0 5) ∧ ω = σp) (fun r ω => r = rI (σp 6 0 5) ∧ ω = μp) := sv_same h1 (σp 6 0 5) ⟨rfl, rfl⟩ ⟨rfl, rfl⟩
                    refine fin _ _ sv (fun x ω hc => ?_) (fun x ω hm => ?_)
                    · obtain ⟨c1, rfl⟩ := hc
                      have c1 : x = ω 6 0 5 := by cases c1; rfl
                      rw [c1]
                      exact P96_5 (a10 _) (a11 _) w5
                    · obtain ⟨c1, rfl⟩ := hm
                      have c1 : x = σp 6 0 5 := by cases c1; rfl
                      have t := P129_9 (d := e + 3) (σ := μ) (x1 := nI p) (x2 := nI K) b10 b11 b17 m10 mlt mgt hkb n0 n1 n2 n3 n4 ((mw 5).mpr w5)
                      have tm : σp 6 0 5 = μ 7 0 2 := by rw [← hσp]; exact h.time.symm
                      rw [hμp] at t
                      rw [c1, tm]
                      exact t
                  · have n5 : ¬ μ 16 0 (32 * nI K + 17).toNatClampNeg = 5 := fun c => w5 ((mw 5).mp c)
                    by_cases w6 : σ 13 K 17 = 6
                    · have sv := sv6 (d := d + 1) (e := e + 1) (x := σ 13 K 10) h1 hbg1 hp hq (by rw [← eK0]; exact hr1)
                      rw [← eK0] at sv
                      exact fin _ _ sv (fun x ω hc => P96_6 (a10 _) (a11 _) w6 hc) (fun x ω hm => P129_10 b10 b11 b17 m10 mlt mgt hkb n0 n1 n2 n3 n4 n5 ((mw 6).mpr w6) (by rw [hμp, g10']; exact hm))
                    · have n6 : ¬ μ 16 0 (32 * nI K + 17).toNatClampNeg = 6 := fun c => w6 ((mw 6).mp c)
                      by_cases w7 : σ 13 K 17 = 7
                      · exact fin _ _ (sv7 (d := d) (e := e + 1) (x := σ 13 K 10) h1 (by omega) hbg1 hp) (fun x ω hc => P96_7 (a10 _) (a11 _) w7 hc) (fun x ω hm => P129_11 b10 b11 b17 m10 mlt mgt hkb n0 n1 n2 n3 n4 n5 n6 ((mw 7).mpr w7) (by rw [hμp, g10']; exact hm))
                      · have n7 : ¬ μ 16 0 (32 * nI K + 17).toNatClampNeg = 7 := fun c => w7 ((mw 7).mp c)
                        by_cases w8 : σ 13 K 17 = 8
                        · exact fin _ _ (sv8 (d := d) (e := e + 1) (x := σ 13 K 10) (v := σ 13 K 11) h1 hp) (fun x ω hc => P96_8 (a10 _) (a11 _) w8 hc) (fun x ω hm => P129_12 b10 b11 b17 m10 mlt mgt hkb n0 n1 n2 n3 n4 n5 n6 n7 ((mw 8).mpr w8) (by rw [hμp, g10', g11']; exact hm))
                        · have n8 : ¬ μ 16 0 (32 * nI K + 17).toNatClampNeg = 8 := fun c => w8 ((mw 8).mp c)
                          exact fin _ _ (sv9 (d := d) (e := e + 1) (x := σ 13 K 10) h1 hp hK) (fun x ω hc => P96_9 (a10 _) (a11 _) w1 w2 w3 w4 w5 w6 w7 w8 hc) (fun x ω hm => P129_13 b10 b11 b17 m10 mlt mgt hkb n0 n1 n2 n3 n4 n5 n6 n7 n8 (by rw [hμp, g10']; exact hm))
end CALL
