/-! One instruction, whole. -/
section STEPA
variable {d e b p q : Nat} {σ μ σ0 μ0 : mSg}
/-- what class's step and reference's instruct do with process 8 p + q -/
theorem step_both (h : KI b σ0 μ0 σ μ) (hp : p < 4) (hq : q < 8) :
    (∃ (w : Int32) (rd : Nat), rd < 32 ∧ fd w 7 31 = nI rd ∧ (∀ e, Sp (e + 2) 107 [.inl (σ 5 (8 * p + q) 6), .inl 4] μ (rI 1) μ) ∧ (∀ e, Sp (e + 1) 108 [.inr (some (7, 0)), .inl (nI p), .inl (σ 5 (8 * p + q) 6), .inl 4] μ (rI w) μ) ∧
      (OK2 b σ0 μ0 σ (8 * p + q) rd (Sp (d + 5) 50 [.inr (some (5, 8 * p + q)), .inr (some (3, p))] σ) (Sp (e + 4) 119 [.inr (some (7, 0)), .inl (nI p), .inl (nI (8 * p + q))] μ) ∨
       (Sp (d + 5) 50 [.inr (some (5, 8 * p + q)), .inr (some (3, p))] σ (rI (-2)) σ ∧ ∀ x ω, Sp (e + 3) 129 [.inr (some (7, 0)), .inl (nI p), .inl (nI (8 * p + q))] (mU μ (σ 5 (8 * p + q) 6)) (rI x) ω → Sp (e + 4) 119 [.inr (some (7, 0)), .inl (nI p), .inl (nI (8 * p + q))] μ (rI x) ω))) ∨
    ((∀ e, Sp (e + 2) 107 [.inl (σ 5 (8 * p + q) 6), .inl 4] μ (rI 0) μ) ∧ Sp (d + 5) 50 [.inr (some (5, 8 * p + q)), .inr (some (3, p))] σ (rI 1) σ ∧ Sp (e + 4) 119 [.inr (some (7, 0)), .inl (nI p), .inl (nI (8 * p + q))] μ (rI 1) μ) := by
  have hK : 8 * p + q < 32 := by omega
  generalize 8 * p + q = K at hK ⊢
  have hkb : ¬ (nI K < 0 ∨ 32 ≤ (nI K).toNatClampNeg) := nI_in hK (by decide)
  have e0 : μ 13 36 (nI K).toNatClampNeg = σ 5 K 6 := by rw [nI_clamp (by omega)]; exact h.1.1.get (lk_p' hK 6 36 rfl)
  rcases place_both (s := 4) (σ 5 K 6) (Or.inr (Or.inr rfl)) with ⟨n, hn, hn4, epc, c16, c107⟩ | ⟨c16, c107⟩
  · left
    obtain ⟨r1, hr1, w1⟩ := and_r (σ 15 p (n / 4) >>> ((15 : Int32) &&& 31)) 31 (by decide)
    obtain ⟨r2, hr2, w2⟩ := and_r (σ 15 p (n / 4) >>> ((20 : Int32) &&& 31)) 31 (by decide)
    obtain ⟨rd, hrd, w7⟩ := and_r (σ 15 p (n / 4) >>> ((7 : Int32) &&& 31)) 31 (by decide)
    have hr1 : r1 < 32 := by omega
    have hr2 : r2 < 32 := by omega
    have hrd : rd < 32 := by omega
    have m108 : ∀ e, Sp (e + 1) 108 [.inr (some (7, 0)), .inl (nI p), .inl (σ 5 K 6), .inl 4] μ (rI (σ 15 p (n / 4))) μ := fun e => by rw [epc]; exact load4 h hp hn hn4
    have s17 : Sp (d + 4) 17 [.inr (some (3, p)), .inl (σ 5 K 6)] σ (rI (σ 15 p (n / 4))) σ := by rw [epc]; exact S17 hn hn4
    generalize σ 15 p (n / 4) = w at w1 w2 w7 m108 s17
    have w1 : fd w 15 31 = nI r1 := w1
    have w2 : fd w 20 31 = nI r2 := w2
    have w7 : fd w 7 31 = nI rd := w7
    refine ⟨w, rd, hrd, w7, (fun e => c107 e μ), m108, ?_⟩
    have s16 := c16 (d + 3) σ
    have m107 : Sp (e + 3) 107 [.inl (μ 13 36 (nI K).toNatClampNeg), .inl 4] μ (rI 1) μ := by rw [e0]; exact c107 (e + 1) μ
    have m108' : Sp (e + 3) 108 [.inr (some (7, 0)), .inl (nI p), .inl (μ 13 36 (nI K).toNatClampNeg), .inl 4] μ (rI w) μ := by rw [e0]; exact m108 (e + 2)
    have m15 : Sp (e + 3) 110 [.inl w, .inl 15, .inl 5] μ (rI (nI r1)) μ := by rw [← w1]; exact B15
    have m20 : Sp (e + 3) 110 [.inl w, .inl 20, .inl 5] μ (rI (nI r2)) μ := by rw [← w2]; exact B20
    have b1 : ¬ (32 * nI K + nI r1 < 0 ∨ 1024 ≤ (32 * nI K + nI r1).toNatClampNeg) := by rw [ix32]; exact nI_in (by omega) (by decide)
    have b2 : ¬ (32 * nI K + nI r2 < 0 ∨ 1024 ≤ (32 * nI K + nI r2).toNatClampNeg) := by rw [ix32]; exact nI_in (by omega) (by decide)
    have E1 : μ 16 0 (32 * nI K + nI r1).toNatClampNeg = σ 13 K r1 := by rw [ix32, nI_clamp (by omega)]; exact h.1.1.get (lk_r hK hr1)
    have E2 : μ 16 0 (32 * nI K + nI r2).toNatClampNeg = σ 13 K r2 := by rw [ix32, nI_clamp (by omega)]; exact h.1.1.get (lk_r hK hr2)
    have hU : KI b σ0 μ0 σ (mU μ (σ 5 K 6)) := h.mU
    by_cases o3 : (w &&& 127) = 3
    · left
      refine (load_both (d := d) (e := e) (K := K) hU hp hr1 hrd w1 w7 rfl).map (fun x ω hc => P50_2 s16 (by decide) s17 o3 hc) (fun x ω hm => ?_)
      refine P119_2 hkb m107 (by decide) m108' m15 b1 m20 b2 o3 B12 ?_
      rw [E1, e0]; exact hm
    · by_cases o19 : (w &&& 127) = 19
      · left
        refine (imm_both (d := d) (e := e) (K := K) (y := σ 13 K r2) hU hr1 hrd w1 w7 rfl (by rw [o19]; decide)).map (fun x ω hc => P50_3 s16 (by decide) s17 o19 hc) (fun x ω hm => ?_)
        refine P119_3 hkb m107 (by decide) m108' m15 b1 m20 b2 o19 ?_
        rw [E1, E2, e0]; exact hm
      · by_cases o23 : (w &&& 127) = 23
        · left
          refine ok_G hU rfl (P50_4 s16 (by decide) s17 o23 P66_1 (S51 hrd w7)) ?_
          refine P119_4 hkb m107 (by decide) m108' m15 b1 m20 b2 o23 ?_
          rw [e0]; exact S112
        · by_cases o35 : (w &&& 127) = 35
          · left
            refine (store_both (d := d) (e := e) (K := K) hU hp hr1 hr2 w1 w2 rfl rfl).map (fun x ω hc => P50_5 s16 (by decide) s17 o35 hc) (fun x ω hm => ?_)
            refine P119_5 hkb m107 (by decide) m108' m15 b1 m20 b2 o35 B12 B7 ?_
            rw [E1, E2, e0]; exact hm
          · by_cases o51 : (w &&& 127) = 51
            · left
              refine (reg_both (d := d) (e := e) (K := K) hU hr1 hr2 hrd w1 w2 w7 rfl o51).map (fun x ω hc => P50_6 s16 (by decide) s17 o51 hc) (fun x ω hm => ?_)
              refine P119_6 hkb m107 (by decide) m108' m15 b1 m20 b2 o51 ?_
              rw [E1, E2, e0]; exact hm
            · by_cases o55 : (w &&& 127) = 55
              · left
                refine ok_G hU rfl (P50_7 s16 (by decide) s17 o55 P66_1 (S51 hrd w7)) ?_
                refine P119_7 hkb m107 (by decide) m108' m15 b1 m20 b2 o55 ?_
                rw [e0]; exact S112
              · by_cases o99 : (w &&& 127) = 99
                · left
                  refine (branch_both (d := d) (e := e) (K := K) hU hK hr1 hr2 w1 w2 o99 rfl rfl).map (fun x ω hc => P50_8 s16 (by decide) s17 o99 hc) (fun x ω hm => ?_)
                  refine P119_8 hkb m107 (by decide) m108' m15 b1 m20 b2 o99 ?_
                  rw [E1, e0]; exact hm
                · by_cases o103 : (w &&& 127) = 103
                  · left
                    refine (jalr_both (d := d) (e := e) (K := K) hU hK hr1 hrd w1 w7 o103).map (fun x ω hc => P50_9 s16 (by decide) s17 o103 hc) (fun x ω hm => ?_)
                    refine P119_9 hkb m107 (by decide) m108' m15 b1 m20 b2 o103 ?_
                    rw [E1, e0]; exact hm
                  · by_cases o111 : (w &&& 127) = 111
                    · left
                      refine ok_G (v := σ 5 K 6 + 4) (hU.scr (Or.inl rfl) _) rfl (P50_10 s16 (by decide) s17 o111 P68_1 (S51 hrd w7)) ?_
                      refine P119_10 hkb m107 (by decide) m108' m15 b1 m20 b2 o111 ?_
                      rw [E1, e0]
                      have t := P117_1 (d := e + 2) (σ := mU μ (σ 5 K 6)) (x1 := nI K) (x2 := w) (x3 := σ 13 K r1) hkb o111 B12_8 B20_1 B21_10 S112
                      have e0' : mU μ (σ 5 K 6) 13 36 (nI K).toNatClampNeg = σ 5 K 6 := e0
                      rw [e0'] at t
                      exact t
                    · by_cases o115 : (w &&& 127) = 115
                      · by_cases w115 : w = 115
                        · right
                          refine ⟨P50_11 s16 (by decide) s17 o115 w115, fun x ω hm => ?_⟩
                          refine P119_11 hkb m107 (by decide) m108' m15 b1 m20 b2 o115 w115 ?_
                          rw [e0]; exact hm
                        · left
                          refine ok_E (e := 0) hU (by decide) (P50_12 s16 (by decide) s17 o115 w115) ?_
                          have t := P119_12 (d := e + 3) (σ := μ) (x1 := nI p) (x2 := nI K) hkb m107 (by decide) m108' m15 b1 m20 b2 o115 w115
                          rw [e0] at t
                          exact t
                      · left
                        refine ok_E (e := 0) hU (by decide) (P50_13 s16 (by decide) s17 o3 o19 o23 o35 o51 o55 o99 o103 o111 o115) ?_
                        have t := P119_13 (d := e + 3) (σ := μ) (x1 := nI p) (x2 := nI K) hkb m107 (by decide) m108' m15 b1 m20 b2 o3 o19 o23 o35 o51 o55 o99 o103 o111 o115
                        rw [e0] at t
                        exact t
  · right
    exact ⟨(fun e => c107 e μ), P50_1 (c16 _ _) rfl, P119_1 hkb (by rw [e0]; exact c107 (e + 1) μ) rfl⟩
end STEPA
