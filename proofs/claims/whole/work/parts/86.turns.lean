/-! The law's fifteen cases. -/
theorem lg_self (x : Int64) : lg_cmp x x = 0 := by unfold lg_cmp; rw [if_neg (Int64.lt_irrefl), if_pos rfl]
section TURNS
variable {L I b cs ss : Nat} {xs : Nat → Int32} {c : Nat → Nat} {E : List (Nat × mLV)} {ρ : mSg} {τ : mLg}
theorem lc_0 (hI : I + 6 ≤ L) (hL : L ≤ 3072) (hb : JI b ρ) (hbb : b + 50500 < 2 ^ 26) (hc : cs + 1 ≤ 601024 ∧ ss + 6 ≤ 7293034) (hk : ∀ E' ρ' τ' cs' ss', JI (b + 50500) ρ' → cs' ≤ cs + 1 → ss' ≤ ss + 6 → LN L xs c 884 (lb (nI I) E') [] ρ' τ' cs' ss') : LN L xs c 116 (lb (nI I) E) [] ρ τ cs ss := by
  obtain ⟨t, rC, ρ1, ρ2, a1, a2, a3, a4, a5⟩ := joint_v (fun σ μ h hJ => set_window (d := 6) (e := 7) (x1 := (xs (I + 1))) (x2 := (xs (I + 2))) h hJ) hb
  refine ln_1 (pc1 := 117) (lv1 := lb (nI I) E) (st1 := [.inr (.inl (some (6, 0)))]) k_116 (fun _ _ => rfl) ?_
  refine ln_1 (pc1 := 118) (lv1 := lb (nI I) E) (st1 := [.inr (.inl (some (999, 0))), .inr (.inl (some (6, 0)))]) k_117 (fun _ _ => rfl) ?_
  refine ln_1 (pc1 := 120) (lv1 := lb (nI I) E) (st1 := [.inl (nI I), .inr (.inl (some (999, 0))), .inr (.inl (some (6, 0)))]) k_118 (fun _ _ => rfl) ?_
  refine ln_1 (pc1 := 121) (lv1 := lb (nI I) E) (st1 := [.inl 1, .inl (nI I), .inr (.inl (some (999, 0))), .inr (.inl (some (6, 0)))]) k_120 (fun _ _ => rfl) ?_
  refine ln_1 (pc1 := 122) (lv1 := lb (nI I) E) (st1 := [.inl (nI I + 1), .inr (.inl (some (999, 0))), .inr (.inl (some (6, 0)))]) k_121 (fun _ _ => rfl) ?_
  refine ln_ia (n := I + 1) (pc1 := 123) (st1 := [.inr (.inl (some (6, 0)))]) k_122 (fun _ _ => rfl) (nI_add I 1) (by omega) hL ?_
  refine ln_1 (pc1 := 124) (lv1 := lb (nI I) E) (st1 := [.inr (.inl (some (999, 0))), .inl (xs (I + 1)), .inr (.inl (some (6, 0)))]) k_123 (fun _ _ => rfl) ?_
  refine ln_1 (pc1 := 126) (lv1 := lb (nI I) E) (st1 := [.inl (nI I), .inr (.inl (some (999, 0))), .inl (xs (I + 1)), .inr (.inl (some (6, 0)))]) k_124 (fun _ _ => rfl) ?_
  refine ln_1 (pc1 := 127) (lv1 := lb (nI I) E) (st1 := [.inl 2, .inl (nI I), .inr (.inl (some (999, 0))), .inl (xs (I + 1)), .inr (.inl (some (6, 0)))]) k_126 (fun _ _ => rfl) ?_
  refine ln_1 (pc1 := 128) (lv1 := lb (nI I) E) (st1 := [.inl (nI I + 2), .inr (.inl (some (999, 0))), .inl (xs (I + 1)), .inr (.inl (some (6, 0)))]) k_127 (fun _ _ => rfl) ?_
  refine ln_ia (n := I + 2) (pc1 := 129) (st1 := [.inl (xs (I + 1)), .inr (.inl (some (6, 0)))]) k_128 (fun _ _ => rfl) (nI_add I 2) (by omega) hL ?_
  refine ln_st (a := 151) (as := [.inr (some (6, 0)), .inl (xs (I + 1)), .inl (xs (I + 2))]) (r := []) (nx := 132) k_129 (fun _ _ => rfl) (w151 (τ := τ) a1 a5) (by decide) hc ?_
  refine ln_1 (pc1 := 134) (lv1 := lb (nI I) (mq_sl 5 (.inl t) E)) (st1 := []) k_132 (fun _ _ => rfl) ?_
  refine ln_1 (pc1 := 135) (lv1 := lb (nI I) (mq_sl 5 (.inl t) E)) (st1 := [.inr (.inl (some (7, 0)))]) k_134 (fun _ _ => rfl) ?_
  refine ln_1 (pc1 := 136) (lv1 := lb (nI I) (mq_sl 5 (.inl t) E)) (st1 := [.inr (.inl (some (999, 0))), .inr (.inl (some (7, 0)))]) k_135 (fun _ _ => rfl) ?_
  refine ln_1 (pc1 := 138) (lv1 := lb (nI I) (mq_sl 5 (.inl t) E)) (st1 := [.inl (nI I), .inr (.inl (some (999, 0))), .inr (.inl (some (7, 0)))]) k_136 (fun _ _ => rfl) ?_
  refine ln_1 (pc1 := 139) (lv1 := lb (nI I) (mq_sl 5 (.inl t) E)) (st1 := [.inl 1, .inl (nI I), .inr (.inl (some (999, 0))), .inr (.inl (some (7, 0)))]) k_138 (fun _ _ => rfl) ?_
  refine ln_1 (pc1 := 140) (lv1 := lb (nI I) (mq_sl 5 (.inl t) E)) (st1 := [.inl (nI I + 1), .inr (.inl (some (999, 0))), .inr (.inl (some (7, 0)))]) k_139 (fun _ _ => rfl) ?_
  refine ln_ia (n := I + 1) (pc1 := 141) (st1 := [.inr (.inl (some (7, 0)))]) k_140 (fun _ _ => rfl) (nI_add I 1) (by omega) hL ?_
  refine ln_1 (pc1 := 142) (lv1 := lb (nI I) (mq_sl 5 (.inl t) E)) (st1 := [.inr (.inl (some (999, 0))), .inl (xs (I + 1)), .inr (.inl (some (7, 0)))]) k_141 (fun _ _ => rfl) ?_
  refine ln_1 (pc1 := 144) (lv1 := lb (nI I) (mq_sl 5 (.inl t) E)) (st1 := [.inl (nI I), .inr (.inl (some (999, 0))), .inl (xs (I + 1)), .inr (.inl (some (7, 0)))]) k_142 (fun _ _ => rfl) ?_
  refine ln_1 (pc1 := 145) (lv1 := lb (nI I) (mq_sl 5 (.inl t) E)) (st1 := [.inl 2, .inl (nI I), .inr (.inl (some (999, 0))), .inl (xs (I + 1)), .inr (.inl (some (7, 0)))]) k_144 (fun _ _ => rfl) ?_
  refine ln_1 (pc1 := 146) (lv1 := lb (nI I) (mq_sl 5 (.inl t) E)) (st1 := [.inl (nI I + 2), .inr (.inl (some (999, 0))), .inl (xs (I + 1)), .inr (.inl (some (7, 0)))]) k_145 (fun _ _ => rfl) ?_
  refine ln_ia (n := I + 2) (pc1 := 147) (st1 := [.inl (xs (I + 1)), .inr (.inl (some (7, 0)))]) k_146 (fun _ _ => rfl) (nI_add I 2) (by omega) hL ?_
  refine ln_v (a := 135) (q := (7, 0)) (as := [.inr (some (7, 0)), .inl (xs (I + 1)), .inl (xs (I + 2))]) (r := []) (nx := 150) k_147 (fun _ _ => rfl) a2 (fun _ _ => rfl) ⟨rfl, rfl⟩ (Nat.le_of_ble_eq_true rfl) ⟨by omega, by omega⟩ ?_
  refine ln_1 (pc1 := 151) (lv1 := lb (nI I) (mq_sl 5 (.inl t) E)) (st1 := [.inr (.inl (some (7, 0)))]) k_150 (fun _ _ => rfl) ?_
  refine ln_v (a := 100) (q := (7, 0)) (as := [.inr (some (7, 0))]) (r := []) (nx := 154) k_151 (fun _ _ => rfl) P100_1 (fun _ _ => rfl) ⟨rfl, rfl⟩ (Nat.le_of_ble_eq_true rfl) ⟨by omega, by omega⟩ ?_
  refine ln_gl (i := 5) (x := t) (pc1 := 156) k_154 (fun _ _ => rfl) (gl_sl 5 _ _) ?_
  refine ln_if (P := (ρ2 7 0 0) = t) (pc1 := 161) (pc2 := 159) (r := []) k_156 (fun _ _ => rfl) (fun _ => ?_) (fun z => absurd a4 z)
  refine ln_1 (pc1 := 884) (lv1 := lb (nI I) (mq_sl 5 (.inl t) E)) (st1 := []) k_161 (fun _ _ => rfl) ?_
  exact hk _ _ _ _ _ (a3.mono (by omega)) (by omega) (by omega)
theorem lc_1 (hI : I + 6 ≤ L) (hL : L ≤ 3072) (hb : JI b ρ) (hbb : b + 50500 < 2 ^ 26) (hc : cs + 1 ≤ 601024 ∧ ss + 6 ≤ 7293034) (hk : ∀ E' ρ' τ' cs' ss', JI (b + 50500) ρ' → cs' ≤ cs + 1 → ss' ≤ ss + 6 → LN L xs c 884 (lb (nI I) E') [] ρ' τ' cs' ss') : LN L xs c 164 (lb (nI I) E) [] ρ τ cs ss := by
  obtain ⟨t, rC, v, ρ1, ρ2, a1, a2, a3, a4, a5⟩ := joint_w (fun σ μ h hJ => set_process (d := 5) (e := 7) (x1 := (xs (I + 1))) (x2 := (xs (I + 2))) (x3 := (xs (I + 3))) (x4 := (xs (I + 4))) (x5 := (xs (I + 5))) h hJ) hb
  obtain ⟨τ1, hw, hv⟩ := w152 (τ := τ) a1 a5
  refine ln_1 (pc1 := 165) (lv1 := lb (nI I) E) (st1 := [.inr (.inl (some (6, 0)))]) k_164 (fun _ _ => rfl) ?_
  refine ln_1 (pc1 := 166) (lv1 := lb (nI I) E) (st1 := [.inr (.inl (some (999, 0))), .inr (.inl (some (6, 0)))]) k_165 (fun _ _ => rfl) ?_
  refine ln_1 (pc1 := 168) (lv1 := lb (nI I) E) (st1 := [.inl (nI I), .inr (.inl (some (999, 0))), .inr (.inl (some (6, 0)))]) k_166 (fun _ _ => rfl) ?_
  refine ln_1 (pc1 := 169) (lv1 := lb (nI I) E) (st1 := [.inl 1, .inl (nI I), .inr (.inl (some (999, 0))), .inr (.inl (some (6, 0)))]) k_168 (fun _ _ => rfl) ?_
  refine ln_1 (pc1 := 170) (lv1 := lb (nI I) E) (st1 := [.inl (nI I + 1), .inr (.inl (some (999, 0))), .inr (.inl (some (6, 0)))]) k_169 (fun _ _ => rfl) ?_
  refine ln_ia (n := I + 1) (pc1 := 171) (st1 := [.inr (.inl (some (6, 0)))]) k_170 (fun _ _ => rfl) (nI_add I 1) (by omega) hL ?_
  refine ln_1 (pc1 := 172) (lv1 := lb (nI I) E) (st1 := [.inr (.inl (some (999, 0))), .inl (xs (I + 1)), .inr (.inl (some (6, 0)))]) k_171 (fun _ _ => rfl) ?_
  refine ln_1 (pc1 := 174) (lv1 := lb (nI I) E) (st1 := [.inl (nI I), .inr (.inl (some (999, 0))), .inl (xs (I + 1)), .inr (.inl (some (6, 0)))]) k_172 (fun _ _ => rfl) ?_
  refine ln_1 (pc1 := 175) (lv1 := lb (nI I) E) (st1 := [.inl 2, .inl (nI I), .inr (.inl (some (999, 0))), .inl (xs (I + 1)), .inr (.inl (some (6, 0)))]) k_174 (fun _ _ => rfl) ?_
  refine ln_1 (pc1 := 176) (lv1 := lb (nI I) E) (st1 := [.inl (nI I + 2), .inr (.inl (some (999, 0))), .inl (xs (I + 1)), .inr (.inl (some (6, 0)))]) k_175 (fun _ _ => rfl) ?_
  refine ln_ia (n := I + 2) (pc1 := 177) (st1 := [.inl (xs (I + 1)), .inr (.inl (some (6, 0)))]) k_176 (fun _ _ => rfl) (nI_add I 2) (by omega) hL ?_
  refine ln_1 (pc1 := 178) (lv1 := lb (nI I) E) (st1 := [.inr (.inl (some (999, 0))), .inl (xs (I + 2)), .inl (xs (I + 1)), .inr (.inl (some (6, 0)))]) k_177 (fun _ _ => rfl) ?_
  refine ln_1 (pc1 := 180) (lv1 := lb (nI I) E) (st1 := [.inl (nI I), .inr (.inl (some (999, 0))), .inl (xs (I + 2)), .inl (xs (I + 1)), .inr (.inl (some (6, 0)))]) k_178 (fun _ _ => rfl) ?_
  refine ln_1 (pc1 := 181) (lv1 := lb (nI I) E) (st1 := [.inl 3, .inl (nI I), .inr (.inl (some (999, 0))), .inl (xs (I + 2)), .inl (xs (I + 1)), .inr (.inl (some (6, 0)))]) k_180 (fun _ _ => rfl) ?_
  refine ln_1 (pc1 := 182) (lv1 := lb (nI I) E) (st1 := [.inl (nI I + 3), .inr (.inl (some (999, 0))), .inl (xs (I + 2)), .inl (xs (I + 1)), .inr (.inl (some (6, 0)))]) k_181 (fun _ _ => rfl) ?_
  refine ln_ia (n := I + 3) (pc1 := 183) (st1 := [.inl (xs (I + 2)), .inl (xs (I + 1)), .inr (.inl (some (6, 0)))]) k_182 (fun _ _ => rfl) (nI_add I 3) (by omega) hL ?_
  refine ln_1 (pc1 := 184) (lv1 := lb (nI I) E) (st1 := [.inr (.inl (some (999, 0))), .inl (xs (I + 3)), .inl (xs (I + 2)), .inl (xs (I + 1)), .inr (.inl (some (6, 0)))]) k_183 (fun _ _ => rfl) ?_
  refine ln_1 (pc1 := 186) (lv1 := lb (nI I) E) (st1 := [.inl (nI I), .inr (.inl (some (999, 0))), .inl (xs (I + 3)), .inl (xs (I + 2)), .inl (xs (I + 1)), .inr (.inl (some (6, 0)))]) k_184 (fun _ _ => rfl) ?_
  refine ln_1 (pc1 := 187) (lv1 := lb (nI I) E) (st1 := [.inl 4, .inl (nI I), .inr (.inl (some (999, 0))), .inl (xs (I + 3)), .inl (xs (I + 2)), .inl (xs (I + 1)), .inr (.inl (some (6, 0)))]) k_186 (fun _ _ => rfl) ?_
  refine ln_1 (pc1 := 188) (lv1 := lb (nI I) E) (st1 := [.inl (nI I + 4), .inr (.inl (some (999, 0))), .inl (xs (I + 3)), .inl (xs (I + 2)), .inl (xs (I + 1)), .inr (.inl (some (6, 0)))]) k_187 (fun _ _ => rfl) ?_
  refine ln_ia (n := I + 4) (pc1 := 189) (st1 := [.inl (xs (I + 3)), .inl (xs (I + 2)), .inl (xs (I + 1)), .inr (.inl (some (6, 0)))]) k_188 (fun _ _ => rfl) (nI_add I 4) (by omega) hL ?_
  refine ln_1 (pc1 := 190) (lv1 := lb (nI I) E) (st1 := [.inr (.inl (some (999, 0))), .inl (xs (I + 4)), .inl (xs (I + 3)), .inl (xs (I + 2)), .inl (xs (I + 1)), .inr (.inl (some (6, 0)))]) k_189 (fun _ _ => rfl) ?_
  refine ln_1 (pc1 := 192) (lv1 := lb (nI I) E) (st1 := [.inl (nI I), .inr (.inl (some (999, 0))), .inl (xs (I + 4)), .inl (xs (I + 3)), .inl (xs (I + 2)), .inl (xs (I + 1)), .inr (.inl (some (6, 0)))]) k_190 (fun _ _ => rfl) ?_
  refine ln_1 (pc1 := 193) (lv1 := lb (nI I) E) (st1 := [.inl 5, .inl (nI I), .inr (.inl (some (999, 0))), .inl (xs (I + 4)), .inl (xs (I + 3)), .inl (xs (I + 2)), .inl (xs (I + 1)), .inr (.inl (some (6, 0)))]) k_192 (fun _ _ => rfl) ?_
  refine ln_1 (pc1 := 194) (lv1 := lb (nI I) E) (st1 := [.inl (nI I + 5), .inr (.inl (some (999, 0))), .inl (xs (I + 4)), .inl (xs (I + 3)), .inl (xs (I + 2)), .inl (xs (I + 1)), .inr (.inl (some (6, 0)))]) k_193 (fun _ _ => rfl) ?_
  refine ln_ia (n := I + 5) (pc1 := 195) (st1 := [.inl (xs (I + 4)), .inl (xs (I + 3)), .inl (xs (I + 2)), .inl (xs (I + 1)), .inr (.inl (some (6, 0)))]) k_194 (fun _ _ => rfl) (nI_add I 5) (by omega) hL ?_
  refine ln_1 (pc1 := 196) (lv1 := lb (nI I) E) (st1 := [.inr (.inl (some (40, 0))), .inl (xs (I + 5)), .inl (xs (I + 4)), .inl (xs (I + 3)), .inl (xs (I + 2)), .inl (xs (I + 1)), .inr (.inl (some (6, 0)))]) k_195 (fun _ _ => rfl) ?_
  refine ln_st (a := 152) (as := [.inr (some (6, 0)), .inl (xs (I + 1)), .inl (xs (I + 2)), .inl (xs (I + 3)), .inl (xs (I + 4)), .inl (xs (I + 5)), .inr (some (40, 0))]) (r := []) (nx := 199) k_196 (fun _ _ => rfl) hw (by decide) hc ?_
  refine ln_1 (pc1 := 201) (lv1 := lb (nI I) (mq_sl 5 (.inl t) E)) (st1 := []) k_199 (fun _ _ => rfl) ?_
  refine ln_1 (pc1 := 202) (lv1 := lb (nI I) (mq_sl 5 (.inl t) E)) (st1 := [.inr (.inl (some (7, 0)))]) k_201 (fun _ _ => rfl) ?_
  refine ln_1 (pc1 := 203) (lv1 := lb (nI I) (mq_sl 5 (.inl t) E)) (st1 := [.inr (.inl (some (999, 0))), .inr (.inl (some (7, 0)))]) k_202 (fun _ _ => rfl) ?_
  refine ln_1 (pc1 := 205) (lv1 := lb (nI I) (mq_sl 5 (.inl t) E)) (st1 := [.inl (nI I), .inr (.inl (some (999, 0))), .inr (.inl (some (7, 0)))]) k_203 (fun _ _ => rfl) ?_
  refine ln_1 (pc1 := 206) (lv1 := lb (nI I) (mq_sl 5 (.inl t) E)) (st1 := [.inl 1, .inl (nI I), .inr (.inl (some (999, 0))), .inr (.inl (some (7, 0)))]) k_205 (fun _ _ => rfl) ?_
  refine ln_1 (pc1 := 207) (lv1 := lb (nI I) (mq_sl 5 (.inl t) E)) (st1 := [.inl (nI I + 1), .inr (.inl (some (999, 0))), .inr (.inl (some (7, 0)))]) k_206 (fun _ _ => rfl) ?_
  refine ln_ia (n := I + 1) (pc1 := 208) (st1 := [.inr (.inl (some (7, 0)))]) k_207 (fun _ _ => rfl) (nI_add I 1) (by omega) hL ?_
  refine ln_1 (pc1 := 209) (lv1 := lb (nI I) (mq_sl 5 (.inl t) E)) (st1 := [.inr (.inl (some (999, 0))), .inl (xs (I + 1)), .inr (.inl (some (7, 0)))]) k_208 (fun _ _ => rfl) ?_
  refine ln_1 (pc1 := 211) (lv1 := lb (nI I) (mq_sl 5 (.inl t) E)) (st1 := [.inl (nI I), .inr (.inl (some (999, 0))), .inl (xs (I + 1)), .inr (.inl (some (7, 0)))]) k_209 (fun _ _ => rfl) ?_
  refine ln_1 (pc1 := 212) (lv1 := lb (nI I) (mq_sl 5 (.inl t) E)) (st1 := [.inl 2, .inl (nI I), .inr (.inl (some (999, 0))), .inl (xs (I + 1)), .inr (.inl (some (7, 0)))]) k_211 (fun _ _ => rfl) ?_
  refine ln_1 (pc1 := 213) (lv1 := lb (nI I) (mq_sl 5 (.inl t) E)) (st1 := [.inl (nI I + 2), .inr (.inl (some (999, 0))), .inl (xs (I + 1)), .inr (.inl (some (7, 0)))]) k_212 (fun _ _ => rfl) ?_
  refine ln_ia (n := I + 2) (pc1 := 214) (st1 := [.inl (xs (I + 1)), .inr (.inl (some (7, 0)))]) k_213 (fun _ _ => rfl) (nI_add I 2) (by omega) hL ?_
  refine ln_1 (pc1 := 215) (lv1 := lb (nI I) (mq_sl 5 (.inl t) E)) (st1 := [.inr (.inl (some (999, 0))), .inl (xs (I + 2)), .inl (xs (I + 1)), .inr (.inl (some (7, 0)))]) k_214 (fun _ _ => rfl) ?_
  refine ln_1 (pc1 := 217) (lv1 := lb (nI I) (mq_sl 5 (.inl t) E)) (st1 := [.inl (nI I), .inr (.inl (some (999, 0))), .inl (xs (I + 2)), .inl (xs (I + 1)), .inr (.inl (some (7, 0)))]) k_215 (fun _ _ => rfl) ?_
  refine ln_1 (pc1 := 218) (lv1 := lb (nI I) (mq_sl 5 (.inl t) E)) (st1 := [.inl 3, .inl (nI I), .inr (.inl (some (999, 0))), .inl (xs (I + 2)), .inl (xs (I + 1)), .inr (.inl (some (7, 0)))]) k_217 (fun _ _ => rfl) ?_
  refine ln_1 (pc1 := 219) (lv1 := lb (nI I) (mq_sl 5 (.inl t) E)) (st1 := [.inl (nI I + 3), .inr (.inl (some (999, 0))), .inl (xs (I + 2)), .inl (xs (I + 1)), .inr (.inl (some (7, 0)))]) k_218 (fun _ _ => rfl) ?_
  refine ln_ia (n := I + 3) (pc1 := 220) (st1 := [.inl (xs (I + 2)), .inl (xs (I + 1)), .inr (.inl (some (7, 0)))]) k_219 (fun _ _ => rfl) (nI_add I 3) (by omega) hL ?_
  refine ln_1 (pc1 := 221) (lv1 := lb (nI I) (mq_sl 5 (.inl t) E)) (st1 := [.inr (.inl (some (999, 0))), .inl (xs (I + 3)), .inl (xs (I + 2)), .inl (xs (I + 1)), .inr (.inl (some (7, 0)))]) k_220 (fun _ _ => rfl) ?_
  refine ln_1 (pc1 := 223) (lv1 := lb (nI I) (mq_sl 5 (.inl t) E)) (st1 := [.inl (nI I), .inr (.inl (some (999, 0))), .inl (xs (I + 3)), .inl (xs (I + 2)), .inl (xs (I + 1)), .inr (.inl (some (7, 0)))]) k_221 (fun _ _ => rfl) ?_
  refine ln_1 (pc1 := 224) (lv1 := lb (nI I) (mq_sl 5 (.inl t) E)) (st1 := [.inl 4, .inl (nI I), .inr (.inl (some (999, 0))), .inl (xs (I + 3)), .inl (xs (I + 2)), .inl (xs (I + 1)), .inr (.inl (some (7, 0)))]) k_223 (fun _ _ => rfl) ?_
  refine ln_1 (pc1 := 225) (lv1 := lb (nI I) (mq_sl 5 (.inl t) E)) (st1 := [.inl (nI I + 4), .inr (.inl (some (999, 0))), .inl (xs (I + 3)), .inl (xs (I + 2)), .inl (xs (I + 1)), .inr (.inl (some (7, 0)))]) k_224 (fun _ _ => rfl) ?_
  refine ln_ia (n := I + 4) (pc1 := 226) (st1 := [.inl (xs (I + 3)), .inl (xs (I + 2)), .inl (xs (I + 1)), .inr (.inl (some (7, 0)))]) k_225 (fun _ _ => rfl) (nI_add I 4) (by omega) hL ?_
  refine ln_1 (pc1 := 227) (lv1 := lb (nI I) (mq_sl 5 (.inl t) E)) (st1 := [.inr (.inl (some (999, 0))), .inl (xs (I + 4)), .inl (xs (I + 3)), .inl (xs (I + 2)), .inl (xs (I + 1)), .inr (.inl (some (7, 0)))]) k_226 (fun _ _ => rfl) ?_
  refine ln_1 (pc1 := 229) (lv1 := lb (nI I) (mq_sl 5 (.inl t) E)) (st1 := [.inl (nI I), .inr (.inl (some (999, 0))), .inl (xs (I + 4)), .inl (xs (I + 3)), .inl (xs (I + 2)), .inl (xs (I + 1)), .inr (.inl (some (7, 0)))]) k_227 (fun _ _ => rfl) ?_
  refine ln_1 (pc1 := 230) (lv1 := lb (nI I) (mq_sl 5 (.inl t) E)) (st1 := [.inl 5, .inl (nI I), .inr (.inl (some (999, 0))), .inl (xs (I + 4)), .inl (xs (I + 3)), .inl (xs (I + 2)), .inl (xs (I + 1)), .inr (.inl (some (7, 0)))]) k_229 (fun _ _ => rfl) ?_
  refine ln_1 (pc1 := 231) (lv1 := lb (nI I) (mq_sl 5 (.inl t) E)) (st1 := [.inl (nI I + 5), .inr (.inl (some (999, 0))), .inl (xs (I + 4)), .inl (xs (I + 3)), .inl (xs (I + 2)), .inl (xs (I + 1)), .inr (.inl (some (7, 0)))]) k_230 (fun _ _ => rfl) ?_
  refine ln_ia (n := I + 5) (pc1 := 232) (st1 := [.inl (xs (I + 4)), .inl (xs (I + 3)), .inl (xs (I + 2)), .inl (xs (I + 1)), .inr (.inl (some (7, 0)))]) k_231 (fun _ _ => rfl) (nI_add I 5) (by omega) hL ?_
  refine ln_v (a := 136) (q := (7, 0)) (as := [.inr (some (7, 0)), .inl (xs (I + 1)), .inl (xs (I + 2)), .inl (xs (I + 3)), .inl (xs (I + 4)), .inl (xs (I + 5))]) (r := []) (nx := 235) k_232 (fun _ _ => rfl) a2 (fun _ _ => rfl) ⟨rfl, rfl⟩ (Nat.le_of_ble_eq_true rfl) ⟨by omega, by omega⟩ ?_
  refine ln_1 (pc1 := 237) (lv1 := lb (nI I) (mq_sl 6 (.inl v) (mq_sl 5 (.inl t) E))) (st1 := []) k_235 (fun _ _ => rfl) ?_
  refine ln_1 (pc1 := 238) (lv1 := lb (nI I) (mq_sl 6 (.inl v) (mq_sl 5 (.inl t) E))) (st1 := [.inr (.inl (some (7, 0)))]) k_237 (fun _ _ => rfl) ?_
  refine ln_v (a := 100) (q := (7, 0)) (as := [.inr (some (7, 0))]) (r := []) (nx := 241) k_238 (fun _ _ => rfl) P100_1 (fun _ _ => rfl) ⟨rfl, rfl⟩ (Nat.le_of_ble_eq_true rfl) ⟨by omega, by omega⟩ ?_
  refine ln_gl (i := 5) (x := t) (pc1 := 243) k_241 (fun _ _ => rfl) ((gl_sn (by decide) _ _).trans (gl_sl 5 _ _)) ?_
  refine ln_if (P := (ρ2 7 0 0) = t) (pc1 := 248) (pc2 := 246) (r := []) k_243 (fun _ _ => rfl) (fun _ => ?_) (fun z => absurd a4 z)
  refine ln_gl (i := 5) (x := t) (pc1 := 250) k_248 (fun _ _ => rfl) ((gl_sn (by decide) _ _).trans (gl_sl 5 _ _)) ?_
  refine ln_if (P := t = 0) (pc1 := 253) (pc2 := 265) (r := []) k_250 (fun _ _ => rfl) (fun ht => ?_) (fun _ => ?_)
  · refine ln_1 (pc1 := 254) (lv1 := lb (nI I) (mq_sl 6 (.inl v) (mq_sl 5 (.inl t) E))) (st1 := [.inr (.inl (some (40, 0)))]) k_253 (fun _ _ => rfl) ?_
    refine ln_1 (pc1 := 255) (lv1 := lb (nI I) (mq_sl 6 (.inl v) (mq_sl 5 (.inl t) E))) (st1 := [.inl 0, .inr (.inl (some (40, 0)))]) k_254 (fun _ _ => rfl) ?_
    refine ln_1 (pc1 := 256) (lv1 := lb (nI I) (mq_sl 6 (.inl v) (mq_sl 5 (.inl t) E))) (st1 := [.inr (.inr (τ1 40 0 0))]) k_255 (fun _ _ => rfl) ?_
    refine ln_gl (i := 6) (x := v) (pc1 := 258) k_256 (fun _ _ => rfl) (gl_sl 6 _ _) ?_
    refine ln_1 (pc1 := 259) (lv1 := lb (nI I) (mq_sl 6 (.inl v) (mq_sl 5 (.inl t) E))) (st1 := [.inr (.inr (Int32.toInt64 v)), .inr (.inr (τ1 40 0 0))]) k_258 (fun _ _ => rfl) ?_
    refine ln_1 (pc1 := 260) (lv1 := lb (nI I) (mq_sl 6 (.inl v) (mq_sl 5 (.inl t) E))) (st1 := [.inl (lg_cmp (τ1 40 0 0) (Int32.toInt64 v))]) k_259 (fun _ _ => rfl) ?_
    refine ln_if (P := (lg_cmp (τ1 40 0 0) (Int32.toInt64 v)) = 0) (pc1 := 265) (pc2 := 263) (r := []) k_260 (fun _ _ => rfl) (fun _ => ?_) (fun z => absurd (by rw [hv ht]; exact lg_self _) z)
    refine ln_1 (pc1 := 884) (lv1 := lb (nI I) (mq_sl 6 (.inl v) (mq_sl 5 (.inl t) E))) (st1 := []) k_265 (fun _ _ => rfl) ?_
    exact hk _ _ _ _ _ (a3.mono (by omega)) (by omega) (by omega)
  · refine ln_1 (pc1 := 884) (lv1 := lb (nI I) (mq_sl 6 (.inl v) (mq_sl 5 (.inl t) E))) (st1 := []) k_265 (fun _ _ => rfl) ?_
    exact hk _ _ _ _ _ (a3.mono (by omega)) (by omega) (by omega)
theorem lc_2 (hI : I + 6 ≤ L) (hL : L ≤ 3072) (hb : JI b ρ) (hbb : b + 50500 < 2 ^ 26) (hc : cs + 1 ≤ 601024 ∧ ss + 6 ≤ 7293034) (hk : ∀ E' ρ' τ' cs' ss', JI (b + 50500) ρ' → cs' ≤ cs + 1 → ss' ≤ ss + 6 → LN L xs c 884 (lb (nI I) E') [] ρ' τ' cs' ss') : LN L xs c 268 (lb (nI I) E) [] ρ τ cs ss := by
  by_cases hz : xs (I + 1) = 0
  · obtain ⟨t, rC, v, ρ1, ρ2, a1, a2, a3, a4, a5⟩ := joint_w (fun σ μ h hJ => set_channel (d := 5) (e := 7) (x1 := 0) (x2 := (xs (I + 2))) (x3 := (xs (I + 3))) (x4 := (xs (I + 4))) h hJ (Or.inl rfl)) hb
    obtain ⟨τ1, hw, hv⟩ := w153 (τ := τ) a1 a5
    refine ln_1 (pc1 := 269) (lv1 := lb (nI I) E) (st1 := [.inr (.inl (some (6, 0)))]) k_268 (fun _ _ => rfl) ?_
    refine ln_1 (pc1 := 270) (lv1 := lb (nI I) E) (st1 := [.inr (.inl (some (999, 0))), .inr (.inl (some (6, 0)))]) k_269 (fun _ _ => rfl) ?_
    refine ln_1 (pc1 := 272) (lv1 := lb (nI I) E) (st1 := [.inl (nI I), .inr (.inl (some (999, 0))), .inr (.inl (some (6, 0)))]) k_270 (fun _ _ => rfl) ?_
    refine ln_1 (pc1 := 273) (lv1 := lb (nI I) E) (st1 := [.inl 1, .inl (nI I), .inr (.inl (some (999, 0))), .inr (.inl (some (6, 0)))]) k_272 (fun _ _ => rfl) ?_
    refine ln_1 (pc1 := 274) (lv1 := lb (nI I) E) (st1 := [.inl (nI I + 1), .inr (.inl (some (999, 0))), .inr (.inl (some (6, 0)))]) k_273 (fun _ _ => rfl) ?_
    refine ln_ia (n := I + 1) (pc1 := 275) (st1 := [.inr (.inl (some (6, 0)))]) k_274 (fun _ _ => rfl) (nI_add I 1) (by omega) hL ?_
    refine ln_1 (pc1 := 282) (lv1 := lb (nI I) E) (st1 := [.inr (.inl (some (6, 0)))]) k_275 (fun _ _ => if_pos hz) ?_
    refine ln_1 (pc1 := 283) (lv1 := lb (nI I) E) (st1 := [.inl 0, .inr (.inl (some (6, 0)))]) k_282 (fun _ _ => rfl) ?_
    refine ln_1 (pc1 := 284) (lv1 := lb (nI I) E) (st1 := [.inr (.inl (some (999, 0))), .inl 0, .inr (.inl (some (6, 0)))]) k_283 (fun _ _ => rfl) ?_
    refine ln_1 (pc1 := 286) (lv1 := lb (nI I) E) (st1 := [.inl (nI I), .inr (.inl (some (999, 0))), .inl 0, .inr (.inl (some (6, 0)))]) k_284 (fun _ _ => rfl) ?_
    refine ln_1 (pc1 := 287) (lv1 := lb (nI I) E) (st1 := [.inl 2, .inl (nI I), .inr (.inl (some (999, 0))), .inl 0, .inr (.inl (some (6, 0)))]) k_286 (fun _ _ => rfl) ?_
    refine ln_1 (pc1 := 288) (lv1 := lb (nI I) E) (st1 := [.inl (nI I + 2), .inr (.inl (some (999, 0))), .inl 0, .inr (.inl (some (6, 0)))]) k_287 (fun _ _ => rfl) ?_
    refine ln_ia (n := I + 2) (pc1 := 289) (st1 := [.inl 0, .inr (.inl (some (6, 0)))]) k_288 (fun _ _ => rfl) (nI_add I 2) (by omega) hL ?_
    refine ln_1 (pc1 := 290) (lv1 := lb (nI I) E) (st1 := [.inr (.inl (some (999, 0))), .inl (xs (I + 2)), .inl 0, .inr (.inl (some (6, 0)))]) k_289 (fun _ _ => rfl) ?_
    refine ln_1 (pc1 := 292) (lv1 := lb (nI I) E) (st1 := [.inl (nI I), .inr (.inl (some (999, 0))), .inl (xs (I + 2)), .inl 0, .inr (.inl (some (6, 0)))]) k_290 (fun _ _ => rfl) ?_
    refine ln_1 (pc1 := 293) (lv1 := lb (nI I) E) (st1 := [.inl 3, .inl (nI I), .inr (.inl (some (999, 0))), .inl (xs (I + 2)), .inl 0, .inr (.inl (some (6, 0)))]) k_292 (fun _ _ => rfl) ?_
    refine ln_1 (pc1 := 294) (lv1 := lb (nI I) E) (st1 := [.inl (nI I + 3), .inr (.inl (some (999, 0))), .inl (xs (I + 2)), .inl 0, .inr (.inl (some (6, 0)))]) k_293 (fun _ _ => rfl) ?_
    refine ln_ia (n := I + 3) (pc1 := 295) (st1 := [.inl (xs (I + 2)), .inl 0, .inr (.inl (some (6, 0)))]) k_294 (fun _ _ => rfl) (nI_add I 3) (by omega) hL ?_
    refine ln_1 (pc1 := 296) (lv1 := lb (nI I) E) (st1 := [.inr (.inl (some (999, 0))), .inl (xs (I + 3)), .inl (xs (I + 2)), .inl 0, .inr (.inl (some (6, 0)))]) k_295 (fun _ _ => rfl) ?_
    refine ln_1 (pc1 := 298) (lv1 := lb (nI I) E) (st1 := [.inl (nI I), .inr (.inl (some (999, 0))), .inl (xs (I + 3)), .inl (xs (I + 2)), .inl 0, .inr (.inl (some (6, 0)))]) k_296 (fun _ _ => rfl) ?_
    refine ln_1 (pc1 := 299) (lv1 := lb (nI I) E) (st1 := [.inl 4, .inl (nI I), .inr (.inl (some (999, 0))), .inl (xs (I + 3)), .inl (xs (I + 2)), .inl 0, .inr (.inl (some (6, 0)))]) k_298 (fun _ _ => rfl) ?_
    refine ln_1 (pc1 := 300) (lv1 := lb (nI I) E) (st1 := [.inl (nI I + 4), .inr (.inl (some (999, 0))), .inl (xs (I + 3)), .inl (xs (I + 2)), .inl 0, .inr (.inl (some (6, 0)))]) k_299 (fun _ _ => rfl) ?_
    refine ln_ia (n := I + 4) (pc1 := 301) (st1 := [.inl (xs (I + 3)), .inl (xs (I + 2)), .inl 0, .inr (.inl (some (6, 0)))]) k_300 (fun _ _ => rfl) (nI_add I 4) (by omega) hL ?_
    refine ln_1 (pc1 := 302) (lv1 := lb (nI I) E) (st1 := [.inr (.inl (some (40, 0))), .inl (xs (I + 4)), .inl (xs (I + 3)), .inl (xs (I + 2)), .inl 0, .inr (.inl (some (6, 0)))]) k_301 (fun _ _ => rfl) ?_
    refine ln_st (a := 153) (as := [.inr (some (6, 0)), .inl 0, .inl (xs (I + 2)), .inl (xs (I + 3)), .inl (xs (I + 4)), .inr (some (40, 0))]) (r := []) (nx := 305) k_302 (fun _ _ => rfl) hw (by decide) hc ?_
    refine ln_1 (pc1 := 307) (lv1 := lb (nI I) (mq_sl 5 (.inl t) E)) (st1 := []) k_305 (fun _ _ => rfl) ?_
    refine ln_1 (pc1 := 308) (lv1 := lb (nI I) (mq_sl 5 (.inl t) E)) (st1 := [.inr (.inl (some (7, 0)))]) k_307 (fun _ _ => rfl) ?_
    refine ln_1 (pc1 := 309) (lv1 := lb (nI I) (mq_sl 5 (.inl t) E)) (st1 := [.inr (.inl (some (999, 0))), .inr (.inl (some (7, 0)))]) k_308 (fun _ _ => rfl) ?_
    refine ln_1 (pc1 := 311) (lv1 := lb (nI I) (mq_sl 5 (.inl t) E)) (st1 := [.inl (nI I), .inr (.inl (some (999, 0))), .inr (.inl (some (7, 0)))]) k_309 (fun _ _ => rfl) ?_
    refine ln_1 (pc1 := 312) (lv1 := lb (nI I) (mq_sl 5 (.inl t) E)) (st1 := [.inl 1, .inl (nI I), .inr (.inl (some (999, 0))), .inr (.inl (some (7, 0)))]) k_311 (fun _ _ => rfl) ?_
    refine ln_1 (pc1 := 313) (lv1 := lb (nI I) (mq_sl 5 (.inl t) E)) (st1 := [.inl (nI I + 1), .inr (.inl (some (999, 0))), .inr (.inl (some (7, 0)))]) k_312 (fun _ _ => rfl) ?_
    refine ln_ia (n := I + 1) (pc1 := 314) (st1 := [.inr (.inl (some (7, 0)))]) k_313 (fun _ _ => rfl) (nI_add I 1) (by omega) hL ?_
    refine ln_1 (pc1 := 321) (lv1 := lb (nI I) (mq_sl 5 (.inl t) E)) (st1 := [.inr (.inl (some (7, 0)))]) k_314 (fun _ _ => if_pos hz) ?_
    refine ln_1 (pc1 := 322) (lv1 := lb (nI I) (mq_sl 5 (.inl t) E)) (st1 := [.inl 0, .inr (.inl (some (7, 0)))]) k_321 (fun _ _ => rfl) ?_
    refine ln_1 (pc1 := 323) (lv1 := lb (nI I) (mq_sl 5 (.inl t) E)) (st1 := [.inr (.inl (some (999, 0))), .inl 0, .inr (.inl (some (7, 0)))]) k_322 (fun _ _ => rfl) ?_
    refine ln_1 (pc1 := 325) (lv1 := lb (nI I) (mq_sl 5 (.inl t) E)) (st1 := [.inl (nI I), .inr (.inl (some (999, 0))), .inl 0, .inr (.inl (some (7, 0)))]) k_323 (fun _ _ => rfl) ?_
    refine ln_1 (pc1 := 326) (lv1 := lb (nI I) (mq_sl 5 (.inl t) E)) (st1 := [.inl 2, .inl (nI I), .inr (.inl (some (999, 0))), .inl 0, .inr (.inl (some (7, 0)))]) k_325 (fun _ _ => rfl) ?_
    refine ln_1 (pc1 := 327) (lv1 := lb (nI I) (mq_sl 5 (.inl t) E)) (st1 := [.inl (nI I + 2), .inr (.inl (some (999, 0))), .inl 0, .inr (.inl (some (7, 0)))]) k_326 (fun _ _ => rfl) ?_
    refine ln_ia (n := I + 2) (pc1 := 328) (st1 := [.inl 0, .inr (.inl (some (7, 0)))]) k_327 (fun _ _ => rfl) (nI_add I 2) (by omega) hL ?_
    refine ln_1 (pc1 := 329) (lv1 := lb (nI I) (mq_sl 5 (.inl t) E)) (st1 := [.inr (.inl (some (999, 0))), .inl (xs (I + 2)), .inl 0, .inr (.inl (some (7, 0)))]) k_328 (fun _ _ => rfl) ?_
    refine ln_1 (pc1 := 331) (lv1 := lb (nI I) (mq_sl 5 (.inl t) E)) (st1 := [.inl (nI I), .inr (.inl (some (999, 0))), .inl (xs (I + 2)), .inl 0, .inr (.inl (some (7, 0)))]) k_329 (fun _ _ => rfl) ?_
    refine ln_1 (pc1 := 332) (lv1 := lb (nI I) (mq_sl 5 (.inl t) E)) (st1 := [.inl 3, .inl (nI I), .inr (.inl (some (999, 0))), .inl (xs (I + 2)), .inl 0, .inr (.inl (some (7, 0)))]) k_331 (fun _ _ => rfl) ?_
    refine ln_1 (pc1 := 333) (lv1 := lb (nI I) (mq_sl 5 (.inl t) E)) (st1 := [.inl (nI I + 3), .inr (.inl (some (999, 0))), .inl (xs (I + 2)), .inl 0, .inr (.inl (some (7, 0)))]) k_332 (fun _ _ => rfl) ?_
    refine ln_ia (n := I + 3) (pc1 := 334) (st1 := [.inl (xs (I + 2)), .inl 0, .inr (.inl (some (7, 0)))]) k_333 (fun _ _ => rfl) (nI_add I 3) (by omega) hL ?_
    refine ln_1 (pc1 := 335) (lv1 := lb (nI I) (mq_sl 5 (.inl t) E)) (st1 := [.inr (.inl (some (999, 0))), .inl (xs (I + 3)), .inl (xs (I + 2)), .inl 0, .inr (.inl (some (7, 0)))]) k_334 (fun _ _ => rfl) ?_
    refine ln_1 (pc1 := 337) (lv1 := lb (nI I) (mq_sl 5 (.inl t) E)) (st1 := [.inl (nI I), .inr (.inl (some (999, 0))), .inl (xs (I + 3)), .inl (xs (I + 2)), .inl 0, .inr (.inl (some (7, 0)))]) k_335 (fun _ _ => rfl) ?_
    refine ln_1 (pc1 := 338) (lv1 := lb (nI I) (mq_sl 5 (.inl t) E)) (st1 := [.inl 4, .inl (nI I), .inr (.inl (some (999, 0))), .inl (xs (I + 3)), .inl (xs (I + 2)), .inl 0, .inr (.inl (some (7, 0)))]) k_337 (fun _ _ => rfl) ?_
    refine ln_1 (pc1 := 339) (lv1 := lb (nI I) (mq_sl 5 (.inl t) E)) (st1 := [.inl (nI I + 4), .inr (.inl (some (999, 0))), .inl (xs (I + 3)), .inl (xs (I + 2)), .inl 0, .inr (.inl (some (7, 0)))]) k_338 (fun _ _ => rfl) ?_
    refine ln_ia (n := I + 4) (pc1 := 340) (st1 := [.inl (xs (I + 3)), .inl (xs (I + 2)), .inl 0, .inr (.inl (some (7, 0)))]) k_339 (fun _ _ => rfl) (nI_add I 4) (by omega) hL ?_
    refine ln_v (a := 137) (q := (7, 0)) (as := [.inr (some (7, 0)), .inl 0, .inl (xs (I + 2)), .inl (xs (I + 3)), .inl (xs (I + 4))]) (r := []) (nx := 343) k_340 (fun _ _ => rfl) a2 (fun _ _ => rfl) ⟨rfl, rfl⟩ (Nat.le_of_ble_eq_true rfl) ⟨by omega, by omega⟩ ?_
    refine ln_1 (pc1 := 345) (lv1 := lb (nI I) (mq_sl 6 (.inl v) (mq_sl 5 (.inl t) E))) (st1 := []) k_343 (fun _ _ => rfl) ?_
    refine ln_1 (pc1 := 346) (lv1 := lb (nI I) (mq_sl 6 (.inl v) (mq_sl 5 (.inl t) E))) (st1 := [.inr (.inl (some (7, 0)))]) k_345 (fun _ _ => rfl) ?_
    refine ln_v (a := 100) (q := (7, 0)) (as := [.inr (some (7, 0))]) (r := []) (nx := 349) k_346 (fun _ _ => rfl) P100_1 (fun _ _ => rfl) ⟨rfl, rfl⟩ (Nat.le_of_ble_eq_true rfl) ⟨by omega, by omega⟩ ?_
    refine ln_gl (i := 5) (x := t) (pc1 := 351) k_349 (fun _ _ => rfl) ((gl_sn (by decide) _ _).trans (gl_sl 5 _ _)) ?_
    refine ln_if (P := (ρ2 7 0 0) = t) (pc1 := 356) (pc2 := 354) (r := []) k_351 (fun _ _ => rfl) (fun _ => ?_) (fun z => absurd a4 z)
    refine ln_gl (i := 5) (x := t) (pc1 := 358) k_356 (fun _ _ => rfl) ((gl_sn (by decide) _ _).trans (gl_sl 5 _ _)) ?_
    refine ln_if (P := t = 0) (pc1 := 361) (pc2 := 373) (r := []) k_358 (fun _ _ => rfl) (fun ht => ?_) (fun _ => ?_)
    · refine ln_1 (pc1 := 362) (lv1 := lb (nI I) (mq_sl 6 (.inl v) (mq_sl 5 (.inl t) E))) (st1 := [.inr (.inl (some (40, 0)))]) k_361 (fun _ _ => rfl) ?_
      refine ln_1 (pc1 := 363) (lv1 := lb (nI I) (mq_sl 6 (.inl v) (mq_sl 5 (.inl t) E))) (st1 := [.inl 0, .inr (.inl (some (40, 0)))]) k_362 (fun _ _ => rfl) ?_
      refine ln_1 (pc1 := 364) (lv1 := lb (nI I) (mq_sl 6 (.inl v) (mq_sl 5 (.inl t) E))) (st1 := [.inr (.inr (τ1 40 0 0))]) k_363 (fun _ _ => rfl) ?_
      refine ln_gl (i := 6) (x := v) (pc1 := 366) k_364 (fun _ _ => rfl) (gl_sl 6 _ _) ?_
      refine ln_1 (pc1 := 367) (lv1 := lb (nI I) (mq_sl 6 (.inl v) (mq_sl 5 (.inl t) E))) (st1 := [.inr (.inr (Int32.toInt64 v)), .inr (.inr (τ1 40 0 0))]) k_366 (fun _ _ => rfl) ?_
      refine ln_1 (pc1 := 368) (lv1 := lb (nI I) (mq_sl 6 (.inl v) (mq_sl 5 (.inl t) E))) (st1 := [.inl (lg_cmp (τ1 40 0 0) (Int32.toInt64 v))]) k_367 (fun _ _ => rfl) ?_
      refine ln_if (P := (lg_cmp (τ1 40 0 0) (Int32.toInt64 v)) = 0) (pc1 := 373) (pc2 := 371) (r := []) k_368 (fun _ _ => rfl) (fun _ => ?_) (fun z => absurd (by rw [hv ht]; exact lg_self _) z)
      refine ln_1 (pc1 := 884) (lv1 := lb (nI I) (mq_sl 6 (.inl v) (mq_sl 5 (.inl t) E))) (st1 := []) k_373 (fun _ _ => rfl) ?_
      exact hk _ _ _ _ _ (a3.mono (by omega)) (by omega) (by omega)
    · refine ln_1 (pc1 := 884) (lv1 := lb (nI I) (mq_sl 6 (.inl v) (mq_sl 5 (.inl t) E))) (st1 := []) k_373 (fun _ _ => rfl) ?_
      exact hk _ _ _ _ _ (a3.mono (by omega)) (by omega) (by omega)
  · obtain ⟨t, rC, v, ρ1, ρ2, a1, a2, a3, a4, a5⟩ := joint_w (fun σ μ h hJ => set_channel (d := 5) (e := 7) (x1 := 1) (x2 := (xs (I + 2))) (x3 := (xs (I + 3))) (x4 := (xs (I + 4))) h hJ (Or.inr rfl)) hb
    obtain ⟨τ1, hw, hv⟩ := w153 (τ := τ) a1 a5
    refine ln_1 (pc1 := 269) (lv1 := lb (nI I) E) (st1 := [.inr (.inl (some (6, 0)))]) k_268 (fun _ _ => rfl) ?_
    refine ln_1 (pc1 := 270) (lv1 := lb (nI I) E) (st1 := [.inr (.inl (some (999, 0))), .inr (.inl (some (6, 0)))]) k_269 (fun _ _ => rfl) ?_
    refine ln_1 (pc1 := 272) (lv1 := lb (nI I) E) (st1 := [.inl (nI I), .inr (.inl (some (999, 0))), .inr (.inl (some (6, 0)))]) k_270 (fun _ _ => rfl) ?_
    refine ln_1 (pc1 := 273) (lv1 := lb (nI I) E) (st1 := [.inl 1, .inl (nI I), .inr (.inl (some (999, 0))), .inr (.inl (some (6, 0)))]) k_272 (fun _ _ => rfl) ?_
    refine ln_1 (pc1 := 274) (lv1 := lb (nI I) E) (st1 := [.inl (nI I + 1), .inr (.inl (some (999, 0))), .inr (.inl (some (6, 0)))]) k_273 (fun _ _ => rfl) ?_
    refine ln_ia (n := I + 1) (pc1 := 275) (st1 := [.inr (.inl (some (6, 0)))]) k_274 (fun _ _ => rfl) (nI_add I 1) (by omega) hL ?_
    refine ln_1 (pc1 := 278) (lv1 := lb (nI I) E) (st1 := [.inr (.inl (some (6, 0)))]) k_275 (fun _ _ => if_neg hz) ?_
    refine ln_1 (pc1 := 279) (lv1 := lb (nI I) E) (st1 := [.inl 1, .inr (.inl (some (6, 0)))]) k_278 (fun _ _ => rfl) ?_
    refine ln_1 (pc1 := 283) (lv1 := lb (nI I) E) (st1 := [.inl 1, .inr (.inl (some (6, 0)))]) k_279 (fun _ _ => rfl) ?_
    refine ln_1 (pc1 := 284) (lv1 := lb (nI I) E) (st1 := [.inr (.inl (some (999, 0))), .inl 1, .inr (.inl (some (6, 0)))]) k_283 (fun _ _ => rfl) ?_
    refine ln_1 (pc1 := 286) (lv1 := lb (nI I) E) (st1 := [.inl (nI I), .inr (.inl (some (999, 0))), .inl 1, .inr (.inl (some (6, 0)))]) k_284 (fun _ _ => rfl) ?_
    refine ln_1 (pc1 := 287) (lv1 := lb (nI I) E) (st1 := [.inl 2, .inl (nI I), .inr (.inl (some (999, 0))), .inl 1, .inr (.inl (some (6, 0)))]) k_286 (fun _ _ => rfl) ?_
    refine ln_1 (pc1 := 288) (lv1 := lb (nI I) E) (st1 := [.inl (nI I + 2), .inr (.inl (some (999, 0))), .inl 1, .inr (.inl (some (6, 0)))]) k_287 (fun _ _ => rfl) ?_
    refine ln_ia (n := I + 2) (pc1 := 289) (st1 := [.inl 1, .inr (.inl (some (6, 0)))]) k_288 (fun _ _ => rfl) (nI_add I 2) (by omega) hL ?_
    refine ln_1 (pc1 := 290) (lv1 := lb (nI I) E) (st1 := [.inr (.inl (some (999, 0))), .inl (xs (I + 2)), .inl 1, .inr (.inl (some (6, 0)))]) k_289 (fun _ _ => rfl) ?_
    refine ln_1 (pc1 := 292) (lv1 := lb (nI I) E) (st1 := [.inl (nI I), .inr (.inl (some (999, 0))), .inl (xs (I + 2)), .inl 1, .inr (.inl (some (6, 0)))]) k_290 (fun _ _ => rfl) ?_
    refine ln_1 (pc1 := 293) (lv1 := lb (nI I) E) (st1 := [.inl 3, .inl (nI I), .inr (.inl (some (999, 0))), .inl (xs (I + 2)), .inl 1, .inr (.inl (some (6, 0)))]) k_292 (fun _ _ => rfl) ?_
    refine ln_1 (pc1 := 294) (lv1 := lb (nI I) E) (st1 := [.inl (nI I + 3), .inr (.inl (some (999, 0))), .inl (xs (I + 2)), .inl 1, .inr (.inl (some (6, 0)))]) k_293 (fun _ _ => rfl) ?_
    refine ln_ia (n := I + 3) (pc1 := 295) (st1 := [.inl (xs (I + 2)), .inl 1, .inr (.inl (some (6, 0)))]) k_294 (fun _ _ => rfl) (nI_add I 3) (by omega) hL ?_
    refine ln_1 (pc1 := 296) (lv1 := lb (nI I) E) (st1 := [.inr (.inl (some (999, 0))), .inl (xs (I + 3)), .inl (xs (I + 2)), .inl 1, .inr (.inl (some (6, 0)))]) k_295 (fun _ _ => rfl) ?_
    refine ln_1 (pc1 := 298) (lv1 := lb (nI I) E) (st1 := [.inl (nI I), .inr (.inl (some (999, 0))), .inl (xs (I + 3)), .inl (xs (I + 2)), .inl 1, .inr (.inl (some (6, 0)))]) k_296 (fun _ _ => rfl) ?_
    refine ln_1 (pc1 := 299) (lv1 := lb (nI I) E) (st1 := [.inl 4, .inl (nI I), .inr (.inl (some (999, 0))), .inl (xs (I + 3)), .inl (xs (I + 2)), .inl 1, .inr (.inl (some (6, 0)))]) k_298 (fun _ _ => rfl) ?_
    refine ln_1 (pc1 := 300) (lv1 := lb (nI I) E) (st1 := [.inl (nI I + 4), .inr (.inl (some (999, 0))), .inl (xs (I + 3)), .inl (xs (I + 2)), .inl 1, .inr (.inl (some (6, 0)))]) k_299 (fun _ _ => rfl) ?_
    refine ln_ia (n := I + 4) (pc1 := 301) (st1 := [.inl (xs (I + 3)), .inl (xs (I + 2)), .inl 1, .inr (.inl (some (6, 0)))]) k_300 (fun _ _ => rfl) (nI_add I 4) (by omega) hL ?_
    refine ln_1 (pc1 := 302) (lv1 := lb (nI I) E) (st1 := [.inr (.inl (some (40, 0))), .inl (xs (I + 4)), .inl (xs (I + 3)), .inl (xs (I + 2)), .inl 1, .inr (.inl (some (6, 0)))]) k_301 (fun _ _ => rfl) ?_
    refine ln_st (a := 153) (as := [.inr (some (6, 0)), .inl 1, .inl (xs (I + 2)), .inl (xs (I + 3)), .inl (xs (I + 4)), .inr (some (40, 0))]) (r := []) (nx := 305) k_302 (fun _ _ => rfl) hw (by decide) hc ?_
    refine ln_1 (pc1 := 307) (lv1 := lb (nI I) (mq_sl 5 (.inl t) E)) (st1 := []) k_305 (fun _ _ => rfl) ?_
    refine ln_1 (pc1 := 308) (lv1 := lb (nI I) (mq_sl 5 (.inl t) E)) (st1 := [.inr (.inl (some (7, 0)))]) k_307 (fun _ _ => rfl) ?_
    refine ln_1 (pc1 := 309) (lv1 := lb (nI I) (mq_sl 5 (.inl t) E)) (st1 := [.inr (.inl (some (999, 0))), .inr (.inl (some (7, 0)))]) k_308 (fun _ _ => rfl) ?_
    refine ln_1 (pc1 := 311) (lv1 := lb (nI I) (mq_sl 5 (.inl t) E)) (st1 := [.inl (nI I), .inr (.inl (some (999, 0))), .inr (.inl (some (7, 0)))]) k_309 (fun _ _ => rfl) ?_
    refine ln_1 (pc1 := 312) (lv1 := lb (nI I) (mq_sl 5 (.inl t) E)) (st1 := [.inl 1, .inl (nI I), .inr (.inl (some (999, 0))), .inr (.inl (some (7, 0)))]) k_311 (fun _ _ => rfl) ?_
    refine ln_1 (pc1 := 313) (lv1 := lb (nI I) (mq_sl 5 (.inl t) E)) (st1 := [.inl (nI I + 1), .inr (.inl (some (999, 0))), .inr (.inl (some (7, 0)))]) k_312 (fun _ _ => rfl) ?_
    refine ln_ia (n := I + 1) (pc1 := 314) (st1 := [.inr (.inl (some (7, 0)))]) k_313 (fun _ _ => rfl) (nI_add I 1) (by omega) hL ?_
    refine ln_1 (pc1 := 317) (lv1 := lb (nI I) (mq_sl 5 (.inl t) E)) (st1 := [.inr (.inl (some (7, 0)))]) k_314 (fun _ _ => if_neg hz) ?_
    refine ln_1 (pc1 := 318) (lv1 := lb (nI I) (mq_sl 5 (.inl t) E)) (st1 := [.inl 1, .inr (.inl (some (7, 0)))]) k_317 (fun _ _ => rfl) ?_
    refine ln_1 (pc1 := 322) (lv1 := lb (nI I) (mq_sl 5 (.inl t) E)) (st1 := [.inl 1, .inr (.inl (some (7, 0)))]) k_318 (fun _ _ => rfl) ?_
    refine ln_1 (pc1 := 323) (lv1 := lb (nI I) (mq_sl 5 (.inl t) E)) (st1 := [.inr (.inl (some (999, 0))), .inl 1, .inr (.inl (some (7, 0)))]) k_322 (fun _ _ => rfl) ?_
    refine ln_1 (pc1 := 325) (lv1 := lb (nI I) (mq_sl 5 (.inl t) E)) (st1 := [.inl (nI I), .inr (.inl (some (999, 0))), .inl 1, .inr (.inl (some (7, 0)))]) k_323 (fun _ _ => rfl) ?_
    refine ln_1 (pc1 := 326) (lv1 := lb (nI I) (mq_sl 5 (.inl t) E)) (st1 := [.inl 2, .inl (nI I), .inr (.inl (some (999, 0))), .inl 1, .inr (.inl (some (7, 0)))]) k_325 (fun _ _ => rfl) ?_
    refine ln_1 (pc1 := 327) (lv1 := lb (nI I) (mq_sl 5 (.inl t) E)) (st1 := [.inl (nI I + 2), .inr (.inl (some (999, 0))), .inl 1, .inr (.inl (some (7, 0)))]) k_326 (fun _ _ => rfl) ?_
    refine ln_ia (n := I + 2) (pc1 := 328) (st1 := [.inl 1, .inr (.inl (some (7, 0)))]) k_327 (fun _ _ => rfl) (nI_add I 2) (by omega) hL ?_
    refine ln_1 (pc1 := 329) (lv1 := lb (nI I) (mq_sl 5 (.inl t) E)) (st1 := [.inr (.inl (some (999, 0))), .inl (xs (I + 2)), .inl 1, .inr (.inl (some (7, 0)))]) k_328 (fun _ _ => rfl) ?_
    refine ln_1 (pc1 := 331) (lv1 := lb (nI I) (mq_sl 5 (.inl t) E)) (st1 := [.inl (nI I), .inr (.inl (some (999, 0))), .inl (xs (I + 2)), .inl 1, .inr (.inl (some (7, 0)))]) k_329 (fun _ _ => rfl) ?_
    refine ln_1 (pc1 := 332) (lv1 := lb (nI I) (mq_sl 5 (.inl t) E)) (st1 := [.inl 3, .inl (nI I), .inr (.inl (some (999, 0))), .inl (xs (I + 2)), .inl 1, .inr (.inl (some (7, 0)))]) k_331 (fun _ _ => rfl) ?_
    refine ln_1 (pc1 := 333) (lv1 := lb (nI I) (mq_sl 5 (.inl t) E)) (st1 := [.inl (nI I + 3), .inr (.inl (some (999, 0))), .inl (xs (I + 2)), .inl 1, .inr (.inl (some (7, 0)))]) k_332 (fun _ _ => rfl) ?_
    refine ln_ia (n := I + 3) (pc1 := 334) (st1 := [.inl (xs (I + 2)), .inl 1, .inr (.inl (some (7, 0)))]) k_333 (fun _ _ => rfl) (nI_add I 3) (by omega) hL ?_
    refine ln_1 (pc1 := 335) (lv1 := lb (nI I) (mq_sl 5 (.inl t) E)) (st1 := [.inr (.inl (some (999, 0))), .inl (xs (I + 3)), .inl (xs (I + 2)), .inl 1, .inr (.inl (some (7, 0)))]) k_334 (fun _ _ => rfl) ?_
    refine ln_1 (pc1 := 337) (lv1 := lb (nI I) (mq_sl 5 (.inl t) E)) (st1 := [.inl (nI I), .inr (.inl (some (999, 0))), .inl (xs (I + 3)), .inl (xs (I + 2)), .inl 1, .inr (.inl (some (7, 0)))]) k_335 (fun _ _ => rfl) ?_
    refine ln_1 (pc1 := 338) (lv1 := lb (nI I) (mq_sl 5 (.inl t) E)) (st1 := [.inl 4, .inl (nI I), .inr (.inl (some (999, 0))), .inl (xs (I + 3)), .inl (xs (I + 2)), .inl 1, .inr (.inl (some (7, 0)))]) k_337 (fun _ _ => rfl) ?_
    refine ln_1 (pc1 := 339) (lv1 := lb (nI I) (mq_sl 5 (.inl t) E)) (st1 := [.inl (nI I + 4), .inr (.inl (some (999, 0))), .inl (xs (I + 3)), .inl (xs (I + 2)), .inl 1, .inr (.inl (some (7, 0)))]) k_338 (fun _ _ => rfl) ?_
    refine ln_ia (n := I + 4) (pc1 := 340) (st1 := [.inl (xs (I + 3)), .inl (xs (I + 2)), .inl 1, .inr (.inl (some (7, 0)))]) k_339 (fun _ _ => rfl) (nI_add I 4) (by omega) hL ?_
    refine ln_v (a := 137) (q := (7, 0)) (as := [.inr (some (7, 0)), .inl 1, .inl (xs (I + 2)), .inl (xs (I + 3)), .inl (xs (I + 4))]) (r := []) (nx := 343) k_340 (fun _ _ => rfl) a2 (fun _ _ => rfl) ⟨rfl, rfl⟩ (Nat.le_of_ble_eq_true rfl) ⟨by omega, by omega⟩ ?_
    refine ln_1 (pc1 := 345) (lv1 := lb (nI I) (mq_sl 6 (.inl v) (mq_sl 5 (.inl t) E))) (st1 := []) k_343 (fun _ _ => rfl) ?_
    refine ln_1 (pc1 := 346) (lv1 := lb (nI I) (mq_sl 6 (.inl v) (mq_sl 5 (.inl t) E))) (st1 := [.inr (.inl (some (7, 0)))]) k_345 (fun _ _ => rfl) ?_
    refine ln_v (a := 100) (q := (7, 0)) (as := [.inr (some (7, 0))]) (r := []) (nx := 349) k_346 (fun _ _ => rfl) P100_1 (fun _ _ => rfl) ⟨rfl, rfl⟩ (Nat.le_of_ble_eq_true rfl) ⟨by omega, by omega⟩ ?_
    refine ln_gl (i := 5) (x := t) (pc1 := 351) k_349 (fun _ _ => rfl) ((gl_sn (by decide) _ _).trans (gl_sl 5 _ _)) ?_
    refine ln_if (P := (ρ2 7 0 0) = t) (pc1 := 356) (pc2 := 354) (r := []) k_351 (fun _ _ => rfl) (fun _ => ?_) (fun z => absurd a4 z)
    refine ln_gl (i := 5) (x := t) (pc1 := 358) k_356 (fun _ _ => rfl) ((gl_sn (by decide) _ _).trans (gl_sl 5 _ _)) ?_
    refine ln_if (P := t = 0) (pc1 := 361) (pc2 := 373) (r := []) k_358 (fun _ _ => rfl) (fun ht => ?_) (fun _ => ?_)
    · refine ln_1 (pc1 := 362) (lv1 := lb (nI I) (mq_sl 6 (.inl v) (mq_sl 5 (.inl t) E))) (st1 := [.inr (.inl (some (40, 0)))]) k_361 (fun _ _ => rfl) ?_
      refine ln_1 (pc1 := 363) (lv1 := lb (nI I) (mq_sl 6 (.inl v) (mq_sl 5 (.inl t) E))) (st1 := [.inl 0, .inr (.inl (some (40, 0)))]) k_362 (fun _ _ => rfl) ?_
      refine ln_1 (pc1 := 364) (lv1 := lb (nI I) (mq_sl 6 (.inl v) (mq_sl 5 (.inl t) E))) (st1 := [.inr (.inr (τ1 40 0 0))]) k_363 (fun _ _ => rfl) ?_
      refine ln_gl (i := 6) (x := v) (pc1 := 366) k_364 (fun _ _ => rfl) (gl_sl 6 _ _) ?_
      refine ln_1 (pc1 := 367) (lv1 := lb (nI I) (mq_sl 6 (.inl v) (mq_sl 5 (.inl t) E))) (st1 := [.inr (.inr (Int32.toInt64 v)), .inr (.inr (τ1 40 0 0))]) k_366 (fun _ _ => rfl) ?_
      refine ln_1 (pc1 := 368) (lv1 := lb (nI I) (mq_sl 6 (.inl v) (mq_sl 5 (.inl t) E))) (st1 := [.inl (lg_cmp (τ1 40 0 0) (Int32.toInt64 v))]) k_367 (fun _ _ => rfl) ?_
      refine ln_if (P := (lg_cmp (τ1 40 0 0) (Int32.toInt64 v)) = 0) (pc1 := 373) (pc2 := 371) (r := []) k_368 (fun _ _ => rfl) (fun _ => ?_) (fun z => absurd (by rw [hv ht]; exact lg_self _) z)
      refine ln_1 (pc1 := 884) (lv1 := lb (nI I) (mq_sl 6 (.inl v) (mq_sl 5 (.inl t) E))) (st1 := []) k_373 (fun _ _ => rfl) ?_
      exact hk _ _ _ _ _ (a3.mono (by omega)) (by omega) (by omega)
    · refine ln_1 (pc1 := 884) (lv1 := lb (nI I) (mq_sl 6 (.inl v) (mq_sl 5 (.inl t) E))) (st1 := []) k_373 (fun _ _ => rfl) ?_
      exact hk _ _ _ _ _ (a3.mono (by omega)) (by omega) (by omega)
theorem lc_3 (hI : I + 6 ≤ L) (hL : L ≤ 3072) (hb : JI b ρ) (hbb : b + 50500 < 2 ^ 26) (hc : cs + 1 ≤ 601024 ∧ ss + 6 ≤ 7293034) (hk : ∀ E' ρ' τ' cs' ss', JI (b + 50500) ρ' → cs' ≤ cs + 1 → ss' ≤ ss + 6 → LN L xs c 884 (lb (nI I) E') [] ρ' τ' cs' ss') : LN L xs c 376 (lb (nI I) E) [] ρ τ cs ss := by
  obtain ⟨t, rC, ρ1, ρ2, a1, a2, a3, a4, a5⟩ := joint_v (fun σ μ h hJ => set_action (d := 5) (e := 7) (x1 := (xs (I + 1))) (x2 := (xs (I + 2))) (x3 := (xs (I + 3))) h hJ) hb
  refine ln_1 (pc1 := 377) (lv1 := lb (nI I) E) (st1 := [.inr (.inl (some (6, 0)))]) k_376 (fun _ _ => rfl) ?_
  refine ln_1 (pc1 := 378) (lv1 := lb (nI I) E) (st1 := [.inr (.inl (some (999, 0))), .inr (.inl (some (6, 0)))]) k_377 (fun _ _ => rfl) ?_
  refine ln_1 (pc1 := 380) (lv1 := lb (nI I) E) (st1 := [.inl (nI I), .inr (.inl (some (999, 0))), .inr (.inl (some (6, 0)))]) k_378 (fun _ _ => rfl) ?_
  refine ln_1 (pc1 := 381) (lv1 := lb (nI I) E) (st1 := [.inl 1, .inl (nI I), .inr (.inl (some (999, 0))), .inr (.inl (some (6, 0)))]) k_380 (fun _ _ => rfl) ?_
  refine ln_1 (pc1 := 382) (lv1 := lb (nI I) E) (st1 := [.inl (nI I + 1), .inr (.inl (some (999, 0))), .inr (.inl (some (6, 0)))]) k_381 (fun _ _ => rfl) ?_
  refine ln_ia (n := I + 1) (pc1 := 383) (st1 := [.inr (.inl (some (6, 0)))]) k_382 (fun _ _ => rfl) (nI_add I 1) (by omega) hL ?_
  refine ln_1 (pc1 := 384) (lv1 := lb (nI I) E) (st1 := [.inr (.inl (some (999, 0))), .inl (xs (I + 1)), .inr (.inl (some (6, 0)))]) k_383 (fun _ _ => rfl) ?_
  refine ln_1 (pc1 := 386) (lv1 := lb (nI I) E) (st1 := [.inl (nI I), .inr (.inl (some (999, 0))), .inl (xs (I + 1)), .inr (.inl (some (6, 0)))]) k_384 (fun _ _ => rfl) ?_
  refine ln_1 (pc1 := 387) (lv1 := lb (nI I) E) (st1 := [.inl 2, .inl (nI I), .inr (.inl (some (999, 0))), .inl (xs (I + 1)), .inr (.inl (some (6, 0)))]) k_386 (fun _ _ => rfl) ?_
  refine ln_1 (pc1 := 388) (lv1 := lb (nI I) E) (st1 := [.inl (nI I + 2), .inr (.inl (some (999, 0))), .inl (xs (I + 1)), .inr (.inl (some (6, 0)))]) k_387 (fun _ _ => rfl) ?_
  refine ln_ia (n := I + 2) (pc1 := 389) (st1 := [.inl (xs (I + 1)), .inr (.inl (some (6, 0)))]) k_388 (fun _ _ => rfl) (nI_add I 2) (by omega) hL ?_
  refine ln_1 (pc1 := 390) (lv1 := lb (nI I) E) (st1 := [.inr (.inl (some (999, 0))), .inl (xs (I + 2)), .inl (xs (I + 1)), .inr (.inl (some (6, 0)))]) k_389 (fun _ _ => rfl) ?_
  refine ln_1 (pc1 := 392) (lv1 := lb (nI I) E) (st1 := [.inl (nI I), .inr (.inl (some (999, 0))), .inl (xs (I + 2)), .inl (xs (I + 1)), .inr (.inl (some (6, 0)))]) k_390 (fun _ _ => rfl) ?_
  refine ln_1 (pc1 := 393) (lv1 := lb (nI I) E) (st1 := [.inl 3, .inl (nI I), .inr (.inl (some (999, 0))), .inl (xs (I + 2)), .inl (xs (I + 1)), .inr (.inl (some (6, 0)))]) k_392 (fun _ _ => rfl) ?_
  refine ln_1 (pc1 := 394) (lv1 := lb (nI I) E) (st1 := [.inl (nI I + 3), .inr (.inl (some (999, 0))), .inl (xs (I + 2)), .inl (xs (I + 1)), .inr (.inl (some (6, 0)))]) k_393 (fun _ _ => rfl) ?_
  refine ln_ia (n := I + 3) (pc1 := 395) (st1 := [.inl (xs (I + 2)), .inl (xs (I + 1)), .inr (.inl (some (6, 0)))]) k_394 (fun _ _ => rfl) (nI_add I 3) (by omega) hL ?_
  refine ln_st (a := 154) (as := [.inr (some (6, 0)), .inl (xs (I + 1)), .inl (xs (I + 2)), .inl (xs (I + 3))]) (r := []) (nx := 398) k_395 (fun _ _ => rfl) (w154 (τ := τ) a1 a5) (by decide) hc ?_
  refine ln_1 (pc1 := 400) (lv1 := lb (nI I) (mq_sl 5 (.inl t) E)) (st1 := []) k_398 (fun _ _ => rfl) ?_
  refine ln_1 (pc1 := 401) (lv1 := lb (nI I) (mq_sl 5 (.inl t) E)) (st1 := [.inr (.inl (some (7, 0)))]) k_400 (fun _ _ => rfl) ?_
  refine ln_1 (pc1 := 402) (lv1 := lb (nI I) (mq_sl 5 (.inl t) E)) (st1 := [.inr (.inl (some (999, 0))), .inr (.inl (some (7, 0)))]) k_401 (fun _ _ => rfl) ?_
  refine ln_1 (pc1 := 404) (lv1 := lb (nI I) (mq_sl 5 (.inl t) E)) (st1 := [.inl (nI I), .inr (.inl (some (999, 0))), .inr (.inl (some (7, 0)))]) k_402 (fun _ _ => rfl) ?_
  refine ln_1 (pc1 := 405) (lv1 := lb (nI I) (mq_sl 5 (.inl t) E)) (st1 := [.inl 1, .inl (nI I), .inr (.inl (some (999, 0))), .inr (.inl (some (7, 0)))]) k_404 (fun _ _ => rfl) ?_
  refine ln_1 (pc1 := 406) (lv1 := lb (nI I) (mq_sl 5 (.inl t) E)) (st1 := [.inl (nI I + 1), .inr (.inl (some (999, 0))), .inr (.inl (some (7, 0)))]) k_405 (fun _ _ => rfl) ?_
  refine ln_ia (n := I + 1) (pc1 := 407) (st1 := [.inr (.inl (some (7, 0)))]) k_406 (fun _ _ => rfl) (nI_add I 1) (by omega) hL ?_
  refine ln_1 (pc1 := 408) (lv1 := lb (nI I) (mq_sl 5 (.inl t) E)) (st1 := [.inr (.inl (some (999, 0))), .inl (xs (I + 1)), .inr (.inl (some (7, 0)))]) k_407 (fun _ _ => rfl) ?_
  refine ln_1 (pc1 := 410) (lv1 := lb (nI I) (mq_sl 5 (.inl t) E)) (st1 := [.inl (nI I), .inr (.inl (some (999, 0))), .inl (xs (I + 1)), .inr (.inl (some (7, 0)))]) k_408 (fun _ _ => rfl) ?_
  refine ln_1 (pc1 := 411) (lv1 := lb (nI I) (mq_sl 5 (.inl t) E)) (st1 := [.inl 2, .inl (nI I), .inr (.inl (some (999, 0))), .inl (xs (I + 1)), .inr (.inl (some (7, 0)))]) k_410 (fun _ _ => rfl) ?_
  refine ln_1 (pc1 := 412) (lv1 := lb (nI I) (mq_sl 5 (.inl t) E)) (st1 := [.inl (nI I + 2), .inr (.inl (some (999, 0))), .inl (xs (I + 1)), .inr (.inl (some (7, 0)))]) k_411 (fun _ _ => rfl) ?_
  refine ln_ia (n := I + 2) (pc1 := 413) (st1 := [.inl (xs (I + 1)), .inr (.inl (some (7, 0)))]) k_412 (fun _ _ => rfl) (nI_add I 2) (by omega) hL ?_
  refine ln_1 (pc1 := 414) (lv1 := lb (nI I) (mq_sl 5 (.inl t) E)) (st1 := [.inr (.inl (some (999, 0))), .inl (xs (I + 2)), .inl (xs (I + 1)), .inr (.inl (some (7, 0)))]) k_413 (fun _ _ => rfl) ?_
  refine ln_1 (pc1 := 416) (lv1 := lb (nI I) (mq_sl 5 (.inl t) E)) (st1 := [.inl (nI I), .inr (.inl (some (999, 0))), .inl (xs (I + 2)), .inl (xs (I + 1)), .inr (.inl (some (7, 0)))]) k_414 (fun _ _ => rfl) ?_
  refine ln_1 (pc1 := 417) (lv1 := lb (nI I) (mq_sl 5 (.inl t) E)) (st1 := [.inl 3, .inl (nI I), .inr (.inl (some (999, 0))), .inl (xs (I + 2)), .inl (xs (I + 1)), .inr (.inl (some (7, 0)))]) k_416 (fun _ _ => rfl) ?_
  refine ln_1 (pc1 := 418) (lv1 := lb (nI I) (mq_sl 5 (.inl t) E)) (st1 := [.inl (nI I + 3), .inr (.inl (some (999, 0))), .inl (xs (I + 2)), .inl (xs (I + 1)), .inr (.inl (some (7, 0)))]) k_417 (fun _ _ => rfl) ?_
  refine ln_ia (n := I + 3) (pc1 := 419) (st1 := [.inl (xs (I + 2)), .inl (xs (I + 1)), .inr (.inl (some (7, 0)))]) k_418 (fun _ _ => rfl) (nI_add I 3) (by omega) hL ?_
  refine ln_v (a := 138) (q := (7, 0)) (as := [.inr (some (7, 0)), .inl (xs (I + 1)), .inl (xs (I + 2)), .inl (xs (I + 3))]) (r := []) (nx := 422) k_419 (fun _ _ => rfl) a2 (fun _ _ => rfl) ⟨rfl, rfl⟩ (Nat.le_of_ble_eq_true rfl) ⟨by omega, by omega⟩ ?_
  refine ln_1 (pc1 := 423) (lv1 := lb (nI I) (mq_sl 5 (.inl t) E)) (st1 := [.inr (.inl (some (7, 0)))]) k_422 (fun _ _ => rfl) ?_
  refine ln_v (a := 100) (q := (7, 0)) (as := [.inr (some (7, 0))]) (r := []) (nx := 426) k_423 (fun _ _ => rfl) P100_1 (fun _ _ => rfl) ⟨rfl, rfl⟩ (Nat.le_of_ble_eq_true rfl) ⟨by omega, by omega⟩ ?_
  refine ln_gl (i := 5) (x := t) (pc1 := 428) k_426 (fun _ _ => rfl) (gl_sl 5 _ _) ?_
  refine ln_if (P := (ρ2 7 0 0) = t) (pc1 := 433) (pc2 := 431) (r := []) k_428 (fun _ _ => rfl) (fun _ => ?_) (fun z => absurd a4 z)
  refine ln_1 (pc1 := 884) (lv1 := lb (nI I) (mq_sl 5 (.inl t) E)) (st1 := []) k_433 (fun _ _ => rfl) ?_
  exact hk _ _ _ _ _ (a3.mono (by omega)) (by omega) (by omega)
theorem lc_4 (hI : I + 6 ≤ L) (hL : L ≤ 3072) (hb : JI b ρ) (hbb : b + 50500 < 2 ^ 26) (hc : cs + 1 ≤ 601024 ∧ ss + 6 ≤ 7293034) (hk : ∀ E' ρ' τ' cs' ss', JI (b + 50500) ρ' → cs' ≤ cs + 1 → ss' ≤ ss + 6 → LN L xs c 884 (lb (nI I) E') [] ρ' τ' cs' ss') : LN L xs c 436 (lb (nI I) E) [] ρ τ cs ss := by
  obtain ⟨t, rC, ρ1, ρ2, a1, a2, a3, a4, a5⟩ := joint_v (fun σ μ h hJ => set_poke (d := 5) (e := 6) (x1 := (xs (I + 1))) (x2 := (xs (I + 2))) (x3 := (xs (I + 3))) h hJ) hb
  refine ln_1 (pc1 := 437) (lv1 := lb (nI I) E) (st1 := [.inr (.inl (some (6, 0)))]) k_436 (fun _ _ => rfl) ?_
  refine ln_1 (pc1 := 438) (lv1 := lb (nI I) E) (st1 := [.inr (.inl (some (999, 0))), .inr (.inl (some (6, 0)))]) k_437 (fun _ _ => rfl) ?_
  refine ln_1 (pc1 := 440) (lv1 := lb (nI I) E) (st1 := [.inl (nI I), .inr (.inl (some (999, 0))), .inr (.inl (some (6, 0)))]) k_438 (fun _ _ => rfl) ?_
  refine ln_1 (pc1 := 441) (lv1 := lb (nI I) E) (st1 := [.inl 1, .inl (nI I), .inr (.inl (some (999, 0))), .inr (.inl (some (6, 0)))]) k_440 (fun _ _ => rfl) ?_
  refine ln_1 (pc1 := 442) (lv1 := lb (nI I) E) (st1 := [.inl (nI I + 1), .inr (.inl (some (999, 0))), .inr (.inl (some (6, 0)))]) k_441 (fun _ _ => rfl) ?_
  refine ln_ia (n := I + 1) (pc1 := 443) (st1 := [.inr (.inl (some (6, 0)))]) k_442 (fun _ _ => rfl) (nI_add I 1) (by omega) hL ?_
  refine ln_1 (pc1 := 444) (lv1 := lb (nI I) E) (st1 := [.inr (.inl (some (999, 0))), .inl (xs (I + 1)), .inr (.inl (some (6, 0)))]) k_443 (fun _ _ => rfl) ?_
  refine ln_1 (pc1 := 446) (lv1 := lb (nI I) E) (st1 := [.inl (nI I), .inr (.inl (some (999, 0))), .inl (xs (I + 1)), .inr (.inl (some (6, 0)))]) k_444 (fun _ _ => rfl) ?_
  refine ln_1 (pc1 := 447) (lv1 := lb (nI I) E) (st1 := [.inl 2, .inl (nI I), .inr (.inl (some (999, 0))), .inl (xs (I + 1)), .inr (.inl (some (6, 0)))]) k_446 (fun _ _ => rfl) ?_
  refine ln_1 (pc1 := 448) (lv1 := lb (nI I) E) (st1 := [.inl (nI I + 2), .inr (.inl (some (999, 0))), .inl (xs (I + 1)), .inr (.inl (some (6, 0)))]) k_447 (fun _ _ => rfl) ?_
  refine ln_ia (n := I + 2) (pc1 := 449) (st1 := [.inl (xs (I + 1)), .inr (.inl (some (6, 0)))]) k_448 (fun _ _ => rfl) (nI_add I 2) (by omega) hL ?_
  refine ln_1 (pc1 := 450) (lv1 := lb (nI I) E) (st1 := [.inr (.inl (some (999, 0))), .inl (xs (I + 2)), .inl (xs (I + 1)), .inr (.inl (some (6, 0)))]) k_449 (fun _ _ => rfl) ?_
  refine ln_1 (pc1 := 452) (lv1 := lb (nI I) E) (st1 := [.inl (nI I), .inr (.inl (some (999, 0))), .inl (xs (I + 2)), .inl (xs (I + 1)), .inr (.inl (some (6, 0)))]) k_450 (fun _ _ => rfl) ?_
  refine ln_1 (pc1 := 453) (lv1 := lb (nI I) E) (st1 := [.inl 3, .inl (nI I), .inr (.inl (some (999, 0))), .inl (xs (I + 2)), .inl (xs (I + 1)), .inr (.inl (some (6, 0)))]) k_452 (fun _ _ => rfl) ?_
  refine ln_1 (pc1 := 454) (lv1 := lb (nI I) E) (st1 := [.inl (nI I + 3), .inr (.inl (some (999, 0))), .inl (xs (I + 2)), .inl (xs (I + 1)), .inr (.inl (some (6, 0)))]) k_453 (fun _ _ => rfl) ?_
  refine ln_ia (n := I + 3) (pc1 := 455) (st1 := [.inl (xs (I + 2)), .inl (xs (I + 1)), .inr (.inl (some (6, 0)))]) k_454 (fun _ _ => rfl) (nI_add I 3) (by omega) hL ?_
  refine ln_st (a := 155) (as := [.inr (some (6, 0)), .inl (xs (I + 1)), .inl (xs (I + 2)), .inl (xs (I + 3))]) (r := []) (nx := 458) k_455 (fun _ _ => rfl) (w155 (τ := τ) a1 a5) (by decide) hc ?_
  refine ln_1 (pc1 := 460) (lv1 := lb (nI I) (mq_sl 5 (.inl t) E)) (st1 := []) k_458 (fun _ _ => rfl) ?_
  refine ln_1 (pc1 := 461) (lv1 := lb (nI I) (mq_sl 5 (.inl t) E)) (st1 := [.inr (.inl (some (7, 0)))]) k_460 (fun _ _ => rfl) ?_
  refine ln_1 (pc1 := 462) (lv1 := lb (nI I) (mq_sl 5 (.inl t) E)) (st1 := [.inr (.inl (some (999, 0))), .inr (.inl (some (7, 0)))]) k_461 (fun _ _ => rfl) ?_
  refine ln_1 (pc1 := 464) (lv1 := lb (nI I) (mq_sl 5 (.inl t) E)) (st1 := [.inl (nI I), .inr (.inl (some (999, 0))), .inr (.inl (some (7, 0)))]) k_462 (fun _ _ => rfl) ?_
  refine ln_1 (pc1 := 465) (lv1 := lb (nI I) (mq_sl 5 (.inl t) E)) (st1 := [.inl 1, .inl (nI I), .inr (.inl (some (999, 0))), .inr (.inl (some (7, 0)))]) k_464 (fun _ _ => rfl) ?_
  refine ln_1 (pc1 := 466) (lv1 := lb (nI I) (mq_sl 5 (.inl t) E)) (st1 := [.inl (nI I + 1), .inr (.inl (some (999, 0))), .inr (.inl (some (7, 0)))]) k_465 (fun _ _ => rfl) ?_
  refine ln_ia (n := I + 1) (pc1 := 467) (st1 := [.inr (.inl (some (7, 0)))]) k_466 (fun _ _ => rfl) (nI_add I 1) (by omega) hL ?_
  refine ln_1 (pc1 := 468) (lv1 := lb (nI I) (mq_sl 5 (.inl t) E)) (st1 := [.inr (.inl (some (999, 0))), .inl (xs (I + 1)), .inr (.inl (some (7, 0)))]) k_467 (fun _ _ => rfl) ?_
  refine ln_1 (pc1 := 470) (lv1 := lb (nI I) (mq_sl 5 (.inl t) E)) (st1 := [.inl (nI I), .inr (.inl (some (999, 0))), .inl (xs (I + 1)), .inr (.inl (some (7, 0)))]) k_468 (fun _ _ => rfl) ?_
  refine ln_1 (pc1 := 471) (lv1 := lb (nI I) (mq_sl 5 (.inl t) E)) (st1 := [.inl 2, .inl (nI I), .inr (.inl (some (999, 0))), .inl (xs (I + 1)), .inr (.inl (some (7, 0)))]) k_470 (fun _ _ => rfl) ?_
  refine ln_1 (pc1 := 472) (lv1 := lb (nI I) (mq_sl 5 (.inl t) E)) (st1 := [.inl (nI I + 2), .inr (.inl (some (999, 0))), .inl (xs (I + 1)), .inr (.inl (some (7, 0)))]) k_471 (fun _ _ => rfl) ?_
  refine ln_ia (n := I + 2) (pc1 := 473) (st1 := [.inl (xs (I + 1)), .inr (.inl (some (7, 0)))]) k_472 (fun _ _ => rfl) (nI_add I 2) (by omega) hL ?_
  refine ln_1 (pc1 := 474) (lv1 := lb (nI I) (mq_sl 5 (.inl t) E)) (st1 := [.inr (.inl (some (999, 0))), .inl (xs (I + 2)), .inl (xs (I + 1)), .inr (.inl (some (7, 0)))]) k_473 (fun _ _ => rfl) ?_
  refine ln_1 (pc1 := 476) (lv1 := lb (nI I) (mq_sl 5 (.inl t) E)) (st1 := [.inl (nI I), .inr (.inl (some (999, 0))), .inl (xs (I + 2)), .inl (xs (I + 1)), .inr (.inl (some (7, 0)))]) k_474 (fun _ _ => rfl) ?_
  refine ln_1 (pc1 := 477) (lv1 := lb (nI I) (mq_sl 5 (.inl t) E)) (st1 := [.inl 3, .inl (nI I), .inr (.inl (some (999, 0))), .inl (xs (I + 2)), .inl (xs (I + 1)), .inr (.inl (some (7, 0)))]) k_476 (fun _ _ => rfl) ?_
  refine ln_1 (pc1 := 478) (lv1 := lb (nI I) (mq_sl 5 (.inl t) E)) (st1 := [.inl (nI I + 3), .inr (.inl (some (999, 0))), .inl (xs (I + 2)), .inl (xs (I + 1)), .inr (.inl (some (7, 0)))]) k_477 (fun _ _ => rfl) ?_
  refine ln_ia (n := I + 3) (pc1 := 479) (st1 := [.inl (xs (I + 2)), .inl (xs (I + 1)), .inr (.inl (some (7, 0)))]) k_478 (fun _ _ => rfl) (nI_add I 3) (by omega) hL ?_
  refine ln_v (a := 139) (q := (7, 0)) (as := [.inr (some (7, 0)), .inl (xs (I + 1)), .inl (xs (I + 2)), .inl (xs (I + 3))]) (r := []) (nx := 482) k_479 (fun _ _ => rfl) a2 (fun _ _ => rfl) ⟨rfl, rfl⟩ (Nat.le_of_ble_eq_true rfl) ⟨by omega, by omega⟩ ?_
  refine ln_1 (pc1 := 483) (lv1 := lb (nI I) (mq_sl 5 (.inl t) E)) (st1 := [.inr (.inl (some (7, 0)))]) k_482 (fun _ _ => rfl) ?_
  refine ln_v (a := 100) (q := (7, 0)) (as := [.inr (some (7, 0))]) (r := []) (nx := 486) k_483 (fun _ _ => rfl) P100_1 (fun _ _ => rfl) ⟨rfl, rfl⟩ (Nat.le_of_ble_eq_true rfl) ⟨by omega, by omega⟩ ?_
  refine ln_gl (i := 5) (x := t) (pc1 := 488) k_486 (fun _ _ => rfl) (gl_sl 5 _ _) ?_
  refine ln_if (P := (ρ2 7 0 0) = t) (pc1 := 493) (pc2 := 491) (r := []) k_488 (fun _ _ => rfl) (fun _ => ?_) (fun z => absurd a4 z)
  refine ln_1 (pc1 := 884) (lv1 := lb (nI I) (mq_sl 5 (.inl t) E)) (st1 := []) k_493 (fun _ _ => rfl) ?_
  exact hk _ _ _ _ _ (a3.mono (by omega)) (by omega) (by omega)
theorem lc_5 (hI : I + 6 ≤ L) (hL : L ≤ 3072) (hb : JI b ρ) (hbb : b + 50500 < 2 ^ 26) (hc : cs + 1 ≤ 601024 ∧ ss + 6 ≤ 7293034) (hk : ∀ E' ρ' τ' cs' ss', JI (b + 50500) ρ' → cs' ≤ cs + 1 → ss' ≤ ss + 6 → LN L xs c 884 (lb (nI I) E') [] ρ' τ' cs' ss') : LN L xs c 496 (lb (nI I) E) [] ρ τ cs ss := by
  obtain ⟨t, rC, ρ1, ρ2, a1, a2, a3, a4, a5⟩ := joint_v (fun σ μ h hJ => set_begin (d := 4) (e := 6)  h hJ) hb
  refine ln_1 (pc1 := 497) (lv1 := lb (nI I) E) (st1 := [.inr (.inl (some (6, 0)))]) k_496 (fun _ _ => rfl) ?_
  refine ln_st (a := 156) (as := [.inr (some (6, 0))]) (r := []) (nx := 500) k_497 (fun _ _ => rfl) (w156 (τ := τ) a1 a5) (by decide) hc ?_
  refine ln_1 (pc1 := 502) (lv1 := lb (nI I) (mq_sl 5 (.inl t) E)) (st1 := []) k_500 (fun _ _ => rfl) ?_
  refine ln_1 (pc1 := 503) (lv1 := lb (nI I) (mq_sl 5 (.inl t) E)) (st1 := [.inr (.inl (some (7, 0)))]) k_502 (fun _ _ => rfl) ?_
  refine ln_v (a := 140) (q := (7, 0)) (as := [.inr (some (7, 0))]) (r := []) (nx := 506) k_503 (fun _ _ => rfl) a2 (fun _ _ => rfl) ⟨rfl, rfl⟩ (Nat.le_of_ble_eq_true rfl) ⟨by omega, by omega⟩ ?_
  refine ln_1 (pc1 := 507) (lv1 := lb (nI I) (mq_sl 5 (.inl t) E)) (st1 := [.inr (.inl (some (7, 0)))]) k_506 (fun _ _ => rfl) ?_
  refine ln_v (a := 100) (q := (7, 0)) (as := [.inr (some (7, 0))]) (r := []) (nx := 510) k_507 (fun _ _ => rfl) P100_1 (fun _ _ => rfl) ⟨rfl, rfl⟩ (Nat.le_of_ble_eq_true rfl) ⟨by omega, by omega⟩ ?_
  refine ln_gl (i := 5) (x := t) (pc1 := 512) k_510 (fun _ _ => rfl) (gl_sl 5 _ _) ?_
  refine ln_if (P := (ρ2 7 0 0) = t) (pc1 := 517) (pc2 := 515) (r := []) k_512 (fun _ _ => rfl) (fun _ => ?_) (fun z => absurd a4 z)
  refine ln_1 (pc1 := 884) (lv1 := lb (nI I) (mq_sl 5 (.inl t) E)) (st1 := []) k_517 (fun _ _ => rfl) ?_
  exact hk _ _ _ _ _ (a3.mono (by omega)) (by omega) (by omega)
theorem lc_6 (hI : I + 6 ≤ L) (hL : L ≤ 3072) (hb : JI b ρ) (hbb : b + 50500 < 2 ^ 26) (hc : cs + 1 ≤ 601024 ∧ ss + 6 ≤ 7293034) (hk : ∀ E' ρ' τ' cs' ss', JI (b + 50500) ρ' → cs' ≤ cs + 1 → ss' ≤ ss + 6 → LN L xs c 884 (lb (nI I) E') [] ρ' τ' cs' ss') : LN L xs c 520 (lb (nI I) E) [] ρ τ cs ss := by
  obtain ⟨t, rC, v, ρ1, ρ2, a1, a2, a3, a4, a5⟩ := joint_w (fun σ μ h hJ => set_run (d := 1) (e := 2) (x1 := (xs (I + 1))) h hJ hbb) hb
  obtain ⟨τ1, hw, hv⟩ := w157 (τ := τ) a1 a5
  refine ln_1 (pc1 := 521) (lv1 := lb (nI I) E) (st1 := [.inr (.inl (some (6, 0)))]) k_520 (fun _ _ => rfl) ?_
  refine ln_1 (pc1 := 522) (lv1 := lb (nI I) E) (st1 := [.inr (.inl (some (999, 0))), .inr (.inl (some (6, 0)))]) k_521 (fun _ _ => rfl) ?_
  refine ln_1 (pc1 := 524) (lv1 := lb (nI I) E) (st1 := [.inl (nI I), .inr (.inl (some (999, 0))), .inr (.inl (some (6, 0)))]) k_522 (fun _ _ => rfl) ?_
  refine ln_1 (pc1 := 525) (lv1 := lb (nI I) E) (st1 := [.inl 1, .inl (nI I), .inr (.inl (some (999, 0))), .inr (.inl (some (6, 0)))]) k_524 (fun _ _ => rfl) ?_
  refine ln_1 (pc1 := 526) (lv1 := lb (nI I) E) (st1 := [.inl (nI I + 1), .inr (.inl (some (999, 0))), .inr (.inl (some (6, 0)))]) k_525 (fun _ _ => rfl) ?_
  refine ln_ia (n := I + 1) (pc1 := 527) (st1 := [.inr (.inl (some (6, 0)))]) k_526 (fun _ _ => rfl) (nI_add I 1) (by omega) hL ?_
  refine ln_1 (pc1 := 528) (lv1 := lb (nI I) E) (st1 := [.inr (.inl (some (40, 0))), .inl (xs (I + 1)), .inr (.inl (some (6, 0)))]) k_527 (fun _ _ => rfl) ?_
  refine ln_st (a := 157) (as := [.inr (some (6, 0)), .inl (xs (I + 1)), .inr (some (40, 0))]) (r := []) (nx := 531) k_528 (fun _ _ => rfl) hw (by decide) hc ?_
  refine ln_1 (pc1 := 533) (lv1 := lb (nI I) (mq_sl 5 (.inl t) E)) (st1 := []) k_531 (fun _ _ => rfl) ?_
  refine ln_1 (pc1 := 534) (lv1 := lb (nI I) (mq_sl 5 (.inl t) E)) (st1 := [.inr (.inl (some (7, 0)))]) k_533 (fun _ _ => rfl) ?_
  refine ln_1 (pc1 := 535) (lv1 := lb (nI I) (mq_sl 5 (.inl t) E)) (st1 := [.inr (.inl (some (999, 0))), .inr (.inl (some (7, 0)))]) k_534 (fun _ _ => rfl) ?_
  refine ln_1 (pc1 := 537) (lv1 := lb (nI I) (mq_sl 5 (.inl t) E)) (st1 := [.inl (nI I), .inr (.inl (some (999, 0))), .inr (.inl (some (7, 0)))]) k_535 (fun _ _ => rfl) ?_
  refine ln_1 (pc1 := 538) (lv1 := lb (nI I) (mq_sl 5 (.inl t) E)) (st1 := [.inl 1, .inl (nI I), .inr (.inl (some (999, 0))), .inr (.inl (some (7, 0)))]) k_537 (fun _ _ => rfl) ?_
  refine ln_1 (pc1 := 539) (lv1 := lb (nI I) (mq_sl 5 (.inl t) E)) (st1 := [.inl (nI I + 1), .inr (.inl (some (999, 0))), .inr (.inl (some (7, 0)))]) k_538 (fun _ _ => rfl) ?_
  refine ln_ia (n := I + 1) (pc1 := 540) (st1 := [.inr (.inl (some (7, 0)))]) k_539 (fun _ _ => rfl) (nI_add I 1) (by omega) hL ?_
  refine ln_v (a := 141) (q := (7, 0)) (as := [.inr (some (7, 0)), .inl (xs (I + 1))]) (r := []) (nx := 543) k_540 (fun _ _ => rfl) a2 (fun _ _ => rfl) ⟨rfl, rfl⟩ (Nat.le_of_ble_eq_true rfl) ⟨by omega, by omega⟩ ?_
  refine ln_1 (pc1 := 545) (lv1 := lb (nI I) (mq_sl 6 (.inl v) (mq_sl 5 (.inl t) E))) (st1 := []) k_543 (fun _ _ => rfl) ?_
  refine ln_1 (pc1 := 546) (lv1 := lb (nI I) (mq_sl 6 (.inl v) (mq_sl 5 (.inl t) E))) (st1 := [.inr (.inl (some (7, 0)))]) k_545 (fun _ _ => rfl) ?_
  refine ln_v (a := 100) (q := (7, 0)) (as := [.inr (some (7, 0))]) (r := []) (nx := 549) k_546 (fun _ _ => rfl) P100_1 (fun _ _ => rfl) ⟨rfl, rfl⟩ (Nat.le_of_ble_eq_true rfl) ⟨by omega, by omega⟩ ?_
  refine ln_gl (i := 5) (x := t) (pc1 := 551) k_549 (fun _ _ => rfl) ((gl_sn (by decide) _ _).trans (gl_sl 5 _ _)) ?_
  refine ln_if (P := (ρ2 7 0 0) = t) (pc1 := 556) (pc2 := 554) (r := []) k_551 (fun _ _ => rfl) (fun _ => ?_) (fun z => absurd a4 z)
  refine ln_gl (i := 5) (x := t) (pc1 := 558) k_556 (fun _ _ => rfl) ((gl_sn (by decide) _ _).trans (gl_sl 5 _ _)) ?_
  refine ln_if (P := t = 0) (pc1 := 561) (pc2 := 573) (r := []) k_558 (fun _ _ => rfl) (fun ht => ?_) (fun _ => ?_)
  · refine ln_1 (pc1 := 562) (lv1 := lb (nI I) (mq_sl 6 (.inl v) (mq_sl 5 (.inl t) E))) (st1 := [.inr (.inl (some (40, 0)))]) k_561 (fun _ _ => rfl) ?_
    refine ln_1 (pc1 := 563) (lv1 := lb (nI I) (mq_sl 6 (.inl v) (mq_sl 5 (.inl t) E))) (st1 := [.inl 0, .inr (.inl (some (40, 0)))]) k_562 (fun _ _ => rfl) ?_
    refine ln_1 (pc1 := 564) (lv1 := lb (nI I) (mq_sl 6 (.inl v) (mq_sl 5 (.inl t) E))) (st1 := [.inr (.inr (τ1 40 0 0))]) k_563 (fun _ _ => rfl) ?_
    refine ln_gl (i := 6) (x := v) (pc1 := 566) k_564 (fun _ _ => rfl) (gl_sl 6 _ _) ?_
    refine ln_1 (pc1 := 567) (lv1 := lb (nI I) (mq_sl 6 (.inl v) (mq_sl 5 (.inl t) E))) (st1 := [.inr (.inr (Int32.toInt64 v)), .inr (.inr (τ1 40 0 0))]) k_566 (fun _ _ => rfl) ?_
    refine ln_1 (pc1 := 568) (lv1 := lb (nI I) (mq_sl 6 (.inl v) (mq_sl 5 (.inl t) E))) (st1 := [.inl (lg_cmp (τ1 40 0 0) (Int32.toInt64 v))]) k_567 (fun _ _ => rfl) ?_
    refine ln_if (P := (lg_cmp (τ1 40 0 0) (Int32.toInt64 v)) = 0) (pc1 := 573) (pc2 := 571) (r := []) k_568 (fun _ _ => rfl) (fun _ => ?_) (fun z => absurd (by rw [hv ht]; exact lg_self _) z)
    refine ln_1 (pc1 := 884) (lv1 := lb (nI I) (mq_sl 6 (.inl v) (mq_sl 5 (.inl t) E))) (st1 := []) k_573 (fun _ _ => rfl) ?_
    exact hk _ _ _ _ _ (a3.mono (by omega)) (by omega) (by omega)
  · refine ln_1 (pc1 := 884) (lv1 := lb (nI I) (mq_sl 6 (.inl v) (mq_sl 5 (.inl t) E))) (st1 := []) k_573 (fun _ _ => rfl) ?_
    exact hk _ _ _ _ _ (a3.mono (by omega)) (by omega) (by omega)
theorem lc_7 (hI : I + 6 ≤ L) (hL : L ≤ 3072) (hb : JI b ρ) (hbb : b + 50500 < 2 ^ 26) (hc : cs + 1 ≤ 601024 ∧ ss + 6 ≤ 7293034) (hk : ∀ E' ρ' τ' cs' ss', JI (b + 50500) ρ' → cs' ≤ cs + 1 → ss' ≤ ss + 6 → LN L xs c 884 (lb (nI I) E') [] ρ' τ' cs' ss') : LN L xs c 576 (lb (nI I) E) [] ρ τ cs ss := by
  obtain ⟨v, c1, c2⟩ := look_peek (d := 6) (e := 6) (x1 := (xs (I + 1))) (x2 := (xs (I + 2))) hb.1
  refine ln_1 (pc1 := 577) (lv1 := lb (nI I) E) (st1 := [.inr (.inl (some (6, 0)))]) k_576 (fun _ _ => rfl) ?_
  refine ln_1 (pc1 := 578) (lv1 := lb (nI I) E) (st1 := [.inr (.inl (some (999, 0))), .inr (.inl (some (6, 0)))]) k_577 (fun _ _ => rfl) ?_
  refine ln_1 (pc1 := 580) (lv1 := lb (nI I) E) (st1 := [.inl (nI I), .inr (.inl (some (999, 0))), .inr (.inl (some (6, 0)))]) k_578 (fun _ _ => rfl) ?_
  refine ln_1 (pc1 := 581) (lv1 := lb (nI I) E) (st1 := [.inl 1, .inl (nI I), .inr (.inl (some (999, 0))), .inr (.inl (some (6, 0)))]) k_580 (fun _ _ => rfl) ?_
  refine ln_1 (pc1 := 582) (lv1 := lb (nI I) E) (st1 := [.inl (nI I + 1), .inr (.inl (some (999, 0))), .inr (.inl (some (6, 0)))]) k_581 (fun _ _ => rfl) ?_
  refine ln_ia (n := I + 1) (pc1 := 583) (st1 := [.inr (.inl (some (6, 0)))]) k_582 (fun _ _ => rfl) (nI_add I 1) (by omega) hL ?_
  refine ln_1 (pc1 := 584) (lv1 := lb (nI I) E) (st1 := [.inr (.inl (some (999, 0))), .inl (xs (I + 1)), .inr (.inl (some (6, 0)))]) k_583 (fun _ _ => rfl) ?_
  refine ln_1 (pc1 := 586) (lv1 := lb (nI I) E) (st1 := [.inl (nI I), .inr (.inl (some (999, 0))), .inl (xs (I + 1)), .inr (.inl (some (6, 0)))]) k_584 (fun _ _ => rfl) ?_
  refine ln_1 (pc1 := 587) (lv1 := lb (nI I) E) (st1 := [.inl 2, .inl (nI I), .inr (.inl (some (999, 0))), .inl (xs (I + 1)), .inr (.inl (some (6, 0)))]) k_586 (fun _ _ => rfl) ?_
  refine ln_1 (pc1 := 588) (lv1 := lb (nI I) E) (st1 := [.inl (nI I + 2), .inr (.inl (some (999, 0))), .inl (xs (I + 1)), .inr (.inl (some (6, 0)))]) k_587 (fun _ _ => rfl) ?_
  refine ln_ia (n := I + 2) (pc1 := 589) (st1 := [.inl (xs (I + 1)), .inr (.inl (some (6, 0)))]) k_588 (fun _ _ => rfl) (nI_add I 2) (by omega) hL ?_
  refine ln_v (a := 78) (q := (6, 0)) (as := [.inr (some (6, 0)), .inl (xs (I + 1)), .inl (xs (I + 2))]) (r := []) (nx := 592) k_589 (fun _ _ => rfl) c1 (fun _ _ => rfl) ⟨rfl, rfl⟩ (Nat.le_of_ble_eq_true rfl) ⟨by omega, by omega⟩ ?_
  refine ln_1 (pc1 := 593) (lv1 := lb (nI I) E) (st1 := [.inr (.inl (some (7, 0))), .inl v]) k_592 (fun _ _ => rfl) ?_
  refine ln_1 (pc1 := 594) (lv1 := lb (nI I) E) (st1 := [.inr (.inl (some (999, 0))), .inr (.inl (some (7, 0))), .inl v]) k_593 (fun _ _ => rfl) ?_
  refine ln_1 (pc1 := 596) (lv1 := lb (nI I) E) (st1 := [.inl (nI I), .inr (.inl (some (999, 0))), .inr (.inl (some (7, 0))), .inl v]) k_594 (fun _ _ => rfl) ?_
  refine ln_1 (pc1 := 597) (lv1 := lb (nI I) E) (st1 := [.inl 1, .inl (nI I), .inr (.inl (some (999, 0))), .inr (.inl (some (7, 0))), .inl v]) k_596 (fun _ _ => rfl) ?_
  refine ln_1 (pc1 := 598) (lv1 := lb (nI I) E) (st1 := [.inl (nI I + 1), .inr (.inl (some (999, 0))), .inr (.inl (some (7, 0))), .inl v]) k_597 (fun _ _ => rfl) ?_
  refine ln_ia (n := I + 1) (pc1 := 599) (st1 := [.inr (.inl (some (7, 0))), .inl v]) k_598 (fun _ _ => rfl) (nI_add I 1) (by omega) hL ?_
  refine ln_1 (pc1 := 600) (lv1 := lb (nI I) E) (st1 := [.inr (.inl (some (999, 0))), .inl (xs (I + 1)), .inr (.inl (some (7, 0))), .inl v]) k_599 (fun _ _ => rfl) ?_
  refine ln_1 (pc1 := 602) (lv1 := lb (nI I) E) (st1 := [.inl (nI I), .inr (.inl (some (999, 0))), .inl (xs (I + 1)), .inr (.inl (some (7, 0))), .inl v]) k_600 (fun _ _ => rfl) ?_
  refine ln_1 (pc1 := 603) (lv1 := lb (nI I) E) (st1 := [.inl 2, .inl (nI I), .inr (.inl (some (999, 0))), .inl (xs (I + 1)), .inr (.inl (some (7, 0))), .inl v]) k_602 (fun _ _ => rfl) ?_
  refine ln_1 (pc1 := 604) (lv1 := lb (nI I) E) (st1 := [.inl (nI I + 2), .inr (.inl (some (999, 0))), .inl (xs (I + 1)), .inr (.inl (some (7, 0))), .inl v]) k_603 (fun _ _ => rfl) ?_
  refine ln_ia (n := I + 2) (pc1 := 605) (st1 := [.inl (xs (I + 1)), .inr (.inl (some (7, 0))), .inl v]) k_604 (fun _ _ => rfl) (nI_add I 2) (by omega) hL ?_
  refine ln_v (a := 142) (q := (7, 0)) (as := [.inr (some (7, 0)), .inl (xs (I + 1)), .inl (xs (I + 2))]) (r := [.inl v]) (nx := 608) k_605 (fun _ _ => rfl) c2 (fun _ _ => rfl) ⟨rfl, rfl⟩ (Nat.le_of_ble_eq_true rfl) ⟨by omega, by omega⟩ ?_
  refine ln_if (P := v = v) (pc1 := 884) (pc2 := 611) (r := []) k_608 (fun _ _ => rfl) (fun _ => ?_) (fun z => absurd rfl z)
  exact hk _ _ _ _ _ ((hb.thr 0).mono (by omega)) (by omega) (by omega)
theorem lc_8 (hI : I + 6 ≤ L) (hL : L ≤ 3072) (hb : JI b ρ) (hbb : b + 50500 < 2 ^ 26) (hc : cs + 1 ≤ 601024 ∧ ss + 6 ≤ 7293034) (hk : ∀ E' ρ' τ' cs' ss', JI (b + 50500) ρ' → cs' ≤ cs + 1 → ss' ≤ ss + 6 → LN L xs c 884 (lb (nI I) E') [] ρ' τ' cs' ss') : LN L xs c 613 (lb (nI I) E) [] ρ τ cs ss := by
  obtain ⟨v, c1, c2⟩ := look_register (d := 5) (e := 6) (x1 := (xs (I + 1))) (x2 := (xs (I + 2))) (x3 := (xs (I + 3))) hb.1
  refine ln_1 (pc1 := 614) (lv1 := lb (nI I) E) (st1 := [.inr (.inl (some (6, 0)))]) k_613 (fun _ _ => rfl) ?_
  refine ln_1 (pc1 := 615) (lv1 := lb (nI I) E) (st1 := [.inr (.inl (some (999, 0))), .inr (.inl (some (6, 0)))]) k_614 (fun _ _ => rfl) ?_
  refine ln_1 (pc1 := 617) (lv1 := lb (nI I) E) (st1 := [.inl (nI I), .inr (.inl (some (999, 0))), .inr (.inl (some (6, 0)))]) k_615 (fun _ _ => rfl) ?_
  refine ln_1 (pc1 := 618) (lv1 := lb (nI I) E) (st1 := [.inl 1, .inl (nI I), .inr (.inl (some (999, 0))), .inr (.inl (some (6, 0)))]) k_617 (fun _ _ => rfl) ?_
  refine ln_1 (pc1 := 619) (lv1 := lb (nI I) E) (st1 := [.inl (nI I + 1), .inr (.inl (some (999, 0))), .inr (.inl (some (6, 0)))]) k_618 (fun _ _ => rfl) ?_
  refine ln_ia (n := I + 1) (pc1 := 620) (st1 := [.inr (.inl (some (6, 0)))]) k_619 (fun _ _ => rfl) (nI_add I 1) (by omega) hL ?_
  refine ln_1 (pc1 := 621) (lv1 := lb (nI I) E) (st1 := [.inr (.inl (some (999, 0))), .inl (xs (I + 1)), .inr (.inl (some (6, 0)))]) k_620 (fun _ _ => rfl) ?_
  refine ln_1 (pc1 := 623) (lv1 := lb (nI I) E) (st1 := [.inl (nI I), .inr (.inl (some (999, 0))), .inl (xs (I + 1)), .inr (.inl (some (6, 0)))]) k_621 (fun _ _ => rfl) ?_
  refine ln_1 (pc1 := 624) (lv1 := lb (nI I) E) (st1 := [.inl 2, .inl (nI I), .inr (.inl (some (999, 0))), .inl (xs (I + 1)), .inr (.inl (some (6, 0)))]) k_623 (fun _ _ => rfl) ?_
  refine ln_1 (pc1 := 625) (lv1 := lb (nI I) E) (st1 := [.inl (nI I + 2), .inr (.inl (some (999, 0))), .inl (xs (I + 1)), .inr (.inl (some (6, 0)))]) k_624 (fun _ _ => rfl) ?_
  refine ln_ia (n := I + 2) (pc1 := 626) (st1 := [.inl (xs (I + 1)), .inr (.inl (some (6, 0)))]) k_625 (fun _ _ => rfl) (nI_add I 2) (by omega) hL ?_
  refine ln_1 (pc1 := 627) (lv1 := lb (nI I) E) (st1 := [.inr (.inl (some (999, 0))), .inl (xs (I + 2)), .inl (xs (I + 1)), .inr (.inl (some (6, 0)))]) k_626 (fun _ _ => rfl) ?_
  refine ln_1 (pc1 := 629) (lv1 := lb (nI I) E) (st1 := [.inl (nI I), .inr (.inl (some (999, 0))), .inl (xs (I + 2)), .inl (xs (I + 1)), .inr (.inl (some (6, 0)))]) k_627 (fun _ _ => rfl) ?_
  refine ln_1 (pc1 := 630) (lv1 := lb (nI I) E) (st1 := [.inl 3, .inl (nI I), .inr (.inl (some (999, 0))), .inl (xs (I + 2)), .inl (xs (I + 1)), .inr (.inl (some (6, 0)))]) k_629 (fun _ _ => rfl) ?_
  refine ln_1 (pc1 := 631) (lv1 := lb (nI I) E) (st1 := [.inl (nI I + 3), .inr (.inl (some (999, 0))), .inl (xs (I + 2)), .inl (xs (I + 1)), .inr (.inl (some (6, 0)))]) k_630 (fun _ _ => rfl) ?_
  refine ln_ia (n := I + 3) (pc1 := 632) (st1 := [.inl (xs (I + 2)), .inl (xs (I + 1)), .inr (.inl (some (6, 0)))]) k_631 (fun _ _ => rfl) (nI_add I 3) (by omega) hL ?_
  refine ln_v (a := 79) (q := (6, 0)) (as := [.inr (some (6, 0)), .inl (xs (I + 1)), .inl (xs (I + 2)), .inl (xs (I + 3))]) (r := []) (nx := 635) k_632 (fun _ _ => rfl) c1 (fun _ _ => rfl) ⟨rfl, rfl⟩ (Nat.le_of_ble_eq_true rfl) ⟨by omega, by omega⟩ ?_
  refine ln_1 (pc1 := 636) (lv1 := lb (nI I) E) (st1 := [.inr (.inl (some (7, 0))), .inl v]) k_635 (fun _ _ => rfl) ?_
  refine ln_1 (pc1 := 637) (lv1 := lb (nI I) E) (st1 := [.inr (.inl (some (999, 0))), .inr (.inl (some (7, 0))), .inl v]) k_636 (fun _ _ => rfl) ?_
  refine ln_1 (pc1 := 639) (lv1 := lb (nI I) E) (st1 := [.inl (nI I), .inr (.inl (some (999, 0))), .inr (.inl (some (7, 0))), .inl v]) k_637 (fun _ _ => rfl) ?_
  refine ln_1 (pc1 := 640) (lv1 := lb (nI I) E) (st1 := [.inl 1, .inl (nI I), .inr (.inl (some (999, 0))), .inr (.inl (some (7, 0))), .inl v]) k_639 (fun _ _ => rfl) ?_
  refine ln_1 (pc1 := 641) (lv1 := lb (nI I) E) (st1 := [.inl (nI I + 1), .inr (.inl (some (999, 0))), .inr (.inl (some (7, 0))), .inl v]) k_640 (fun _ _ => rfl) ?_
  refine ln_ia (n := I + 1) (pc1 := 642) (st1 := [.inr (.inl (some (7, 0))), .inl v]) k_641 (fun _ _ => rfl) (nI_add I 1) (by omega) hL ?_
  refine ln_1 (pc1 := 643) (lv1 := lb (nI I) E) (st1 := [.inr (.inl (some (999, 0))), .inl (xs (I + 1)), .inr (.inl (some (7, 0))), .inl v]) k_642 (fun _ _ => rfl) ?_
  refine ln_1 (pc1 := 645) (lv1 := lb (nI I) E) (st1 := [.inl (nI I), .inr (.inl (some (999, 0))), .inl (xs (I + 1)), .inr (.inl (some (7, 0))), .inl v]) k_643 (fun _ _ => rfl) ?_
  refine ln_1 (pc1 := 646) (lv1 := lb (nI I) E) (st1 := [.inl 2, .inl (nI I), .inr (.inl (some (999, 0))), .inl (xs (I + 1)), .inr (.inl (some (7, 0))), .inl v]) k_645 (fun _ _ => rfl) ?_
  refine ln_1 (pc1 := 647) (lv1 := lb (nI I) E) (st1 := [.inl (nI I + 2), .inr (.inl (some (999, 0))), .inl (xs (I + 1)), .inr (.inl (some (7, 0))), .inl v]) k_646 (fun _ _ => rfl) ?_
  refine ln_ia (n := I + 2) (pc1 := 648) (st1 := [.inl (xs (I + 1)), .inr (.inl (some (7, 0))), .inl v]) k_647 (fun _ _ => rfl) (nI_add I 2) (by omega) hL ?_
  refine ln_1 (pc1 := 649) (lv1 := lb (nI I) E) (st1 := [.inr (.inl (some (999, 0))), .inl (xs (I + 2)), .inl (xs (I + 1)), .inr (.inl (some (7, 0))), .inl v]) k_648 (fun _ _ => rfl) ?_
  refine ln_1 (pc1 := 651) (lv1 := lb (nI I) E) (st1 := [.inl (nI I), .inr (.inl (some (999, 0))), .inl (xs (I + 2)), .inl (xs (I + 1)), .inr (.inl (some (7, 0))), .inl v]) k_649 (fun _ _ => rfl) ?_
  refine ln_1 (pc1 := 652) (lv1 := lb (nI I) E) (st1 := [.inl 3, .inl (nI I), .inr (.inl (some (999, 0))), .inl (xs (I + 2)), .inl (xs (I + 1)), .inr (.inl (some (7, 0))), .inl v]) k_651 (fun _ _ => rfl) ?_
  refine ln_1 (pc1 := 653) (lv1 := lb (nI I) E) (st1 := [.inl (nI I + 3), .inr (.inl (some (999, 0))), .inl (xs (I + 2)), .inl (xs (I + 1)), .inr (.inl (some (7, 0))), .inl v]) k_652 (fun _ _ => rfl) ?_
  refine ln_ia (n := I + 3) (pc1 := 654) (st1 := [.inl (xs (I + 2)), .inl (xs (I + 1)), .inr (.inl (some (7, 0))), .inl v]) k_653 (fun _ _ => rfl) (nI_add I 3) (by omega) hL ?_
  refine ln_v (a := 144) (q := (7, 0)) (as := [.inr (some (7, 0)), .inl (xs (I + 1)), .inl (xs (I + 2)), .inl (xs (I + 3))]) (r := [.inl v]) (nx := 657) k_654 (fun _ _ => rfl) c2 (fun _ _ => rfl) ⟨rfl, rfl⟩ (Nat.le_of_ble_eq_true rfl) ⟨by omega, by omega⟩ ?_
  refine ln_if (P := v = v) (pc1 := 884) (pc2 := 660) (r := []) k_657 (fun _ _ => rfl) (fun _ => ?_) (fun z => absurd rfl z)
  exact hk _ _ _ _ _ ((hb.thr 0).mono (by omega)) (by omega) (by omega)
theorem lc_9 (hI : I + 6 ≤ L) (hL : L ≤ 3072) (hb : JI b ρ) (hbb : b + 50500 < 2 ^ 26) (hc : cs + 1 ≤ 601024 ∧ ss + 6 ≤ 7293034) (hk : ∀ E' ρ' τ' cs' ss', JI (b + 50500) ρ' → cs' ≤ cs + 1 → ss' ≤ ss + 6 → LN L xs c 884 (lb (nI I) E') [] ρ' τ' cs' ss') : LN L xs c 662 (lb (nI I) E) [] ρ τ cs ss := by
  obtain ⟨v, c1, c2⟩ := look_state (d := 5) (e := 6) (x1 := (xs (I + 1))) (x2 := (xs (I + 2))) (x3 := (xs (I + 3))) hb.1
  refine ln_1 (pc1 := 663) (lv1 := lb (nI I) E) (st1 := [.inr (.inl (some (6, 0)))]) k_662 (fun _ _ => rfl) ?_
  refine ln_1 (pc1 := 664) (lv1 := lb (nI I) E) (st1 := [.inr (.inl (some (999, 0))), .inr (.inl (some (6, 0)))]) k_663 (fun _ _ => rfl) ?_
  refine ln_1 (pc1 := 666) (lv1 := lb (nI I) E) (st1 := [.inl (nI I), .inr (.inl (some (999, 0))), .inr (.inl (some (6, 0)))]) k_664 (fun _ _ => rfl) ?_
  refine ln_1 (pc1 := 667) (lv1 := lb (nI I) E) (st1 := [.inl 1, .inl (nI I), .inr (.inl (some (999, 0))), .inr (.inl (some (6, 0)))]) k_666 (fun _ _ => rfl) ?_
  refine ln_1 (pc1 := 668) (lv1 := lb (nI I) E) (st1 := [.inl (nI I + 1), .inr (.inl (some (999, 0))), .inr (.inl (some (6, 0)))]) k_667 (fun _ _ => rfl) ?_
  refine ln_ia (n := I + 1) (pc1 := 669) (st1 := [.inr (.inl (some (6, 0)))]) k_668 (fun _ _ => rfl) (nI_add I 1) (by omega) hL ?_
  refine ln_1 (pc1 := 670) (lv1 := lb (nI I) E) (st1 := [.inr (.inl (some (999, 0))), .inl (xs (I + 1)), .inr (.inl (some (6, 0)))]) k_669 (fun _ _ => rfl) ?_
  refine ln_1 (pc1 := 672) (lv1 := lb (nI I) E) (st1 := [.inl (nI I), .inr (.inl (some (999, 0))), .inl (xs (I + 1)), .inr (.inl (some (6, 0)))]) k_670 (fun _ _ => rfl) ?_
  refine ln_1 (pc1 := 673) (lv1 := lb (nI I) E) (st1 := [.inl 2, .inl (nI I), .inr (.inl (some (999, 0))), .inl (xs (I + 1)), .inr (.inl (some (6, 0)))]) k_672 (fun _ _ => rfl) ?_
  refine ln_1 (pc1 := 674) (lv1 := lb (nI I) E) (st1 := [.inl (nI I + 2), .inr (.inl (some (999, 0))), .inl (xs (I + 1)), .inr (.inl (some (6, 0)))]) k_673 (fun _ _ => rfl) ?_
  refine ln_ia (n := I + 2) (pc1 := 675) (st1 := [.inl (xs (I + 1)), .inr (.inl (some (6, 0)))]) k_674 (fun _ _ => rfl) (nI_add I 2) (by omega) hL ?_
  refine ln_1 (pc1 := 676) (lv1 := lb (nI I) E) (st1 := [.inr (.inl (some (999, 0))), .inl (xs (I + 2)), .inl (xs (I + 1)), .inr (.inl (some (6, 0)))]) k_675 (fun _ _ => rfl) ?_
  refine ln_1 (pc1 := 678) (lv1 := lb (nI I) E) (st1 := [.inl (nI I), .inr (.inl (some (999, 0))), .inl (xs (I + 2)), .inl (xs (I + 1)), .inr (.inl (some (6, 0)))]) k_676 (fun _ _ => rfl) ?_
  refine ln_1 (pc1 := 679) (lv1 := lb (nI I) E) (st1 := [.inl 3, .inl (nI I), .inr (.inl (some (999, 0))), .inl (xs (I + 2)), .inl (xs (I + 1)), .inr (.inl (some (6, 0)))]) k_678 (fun _ _ => rfl) ?_
  refine ln_1 (pc1 := 680) (lv1 := lb (nI I) E) (st1 := [.inl (nI I + 3), .inr (.inl (some (999, 0))), .inl (xs (I + 2)), .inl (xs (I + 1)), .inr (.inl (some (6, 0)))]) k_679 (fun _ _ => rfl) ?_
  refine ln_ia (n := I + 3) (pc1 := 681) (st1 := [.inl (xs (I + 2)), .inl (xs (I + 1)), .inr (.inl (some (6, 0)))]) k_680 (fun _ _ => rfl) (nI_add I 3) (by omega) hL ?_
  refine ln_v (a := 80) (q := (6, 0)) (as := [.inr (some (6, 0)), .inl (xs (I + 1)), .inl (xs (I + 2)), .inl (xs (I + 3))]) (r := []) (nx := 684) k_681 (fun _ _ => rfl) c1 (fun _ _ => rfl) ⟨rfl, rfl⟩ (Nat.le_of_ble_eq_true rfl) ⟨by omega, by omega⟩ ?_
  refine ln_1 (pc1 := 685) (lv1 := lb (nI I) E) (st1 := [.inr (.inl (some (7, 0))), .inl v]) k_684 (fun _ _ => rfl) ?_
  refine ln_1 (pc1 := 686) (lv1 := lb (nI I) E) (st1 := [.inr (.inl (some (999, 0))), .inr (.inl (some (7, 0))), .inl v]) k_685 (fun _ _ => rfl) ?_
  refine ln_1 (pc1 := 688) (lv1 := lb (nI I) E) (st1 := [.inl (nI I), .inr (.inl (some (999, 0))), .inr (.inl (some (7, 0))), .inl v]) k_686 (fun _ _ => rfl) ?_
  refine ln_1 (pc1 := 689) (lv1 := lb (nI I) E) (st1 := [.inl 1, .inl (nI I), .inr (.inl (some (999, 0))), .inr (.inl (some (7, 0))), .inl v]) k_688 (fun _ _ => rfl) ?_
  refine ln_1 (pc1 := 690) (lv1 := lb (nI I) E) (st1 := [.inl (nI I + 1), .inr (.inl (some (999, 0))), .inr (.inl (some (7, 0))), .inl v]) k_689 (fun _ _ => rfl) ?_
  refine ln_ia (n := I + 1) (pc1 := 691) (st1 := [.inr (.inl (some (7, 0))), .inl v]) k_690 (fun _ _ => rfl) (nI_add I 1) (by omega) hL ?_
  refine ln_1 (pc1 := 692) (lv1 := lb (nI I) E) (st1 := [.inr (.inl (some (999, 0))), .inl (xs (I + 1)), .inr (.inl (some (7, 0))), .inl v]) k_691 (fun _ _ => rfl) ?_
  refine ln_1 (pc1 := 694) (lv1 := lb (nI I) E) (st1 := [.inl (nI I), .inr (.inl (some (999, 0))), .inl (xs (I + 1)), .inr (.inl (some (7, 0))), .inl v]) k_692 (fun _ _ => rfl) ?_
  refine ln_1 (pc1 := 695) (lv1 := lb (nI I) E) (st1 := [.inl 2, .inl (nI I), .inr (.inl (some (999, 0))), .inl (xs (I + 1)), .inr (.inl (some (7, 0))), .inl v]) k_694 (fun _ _ => rfl) ?_
  refine ln_1 (pc1 := 696) (lv1 := lb (nI I) E) (st1 := [.inl (nI I + 2), .inr (.inl (some (999, 0))), .inl (xs (I + 1)), .inr (.inl (some (7, 0))), .inl v]) k_695 (fun _ _ => rfl) ?_
  refine ln_ia (n := I + 2) (pc1 := 697) (st1 := [.inl (xs (I + 1)), .inr (.inl (some (7, 0))), .inl v]) k_696 (fun _ _ => rfl) (nI_add I 2) (by omega) hL ?_
  refine ln_1 (pc1 := 698) (lv1 := lb (nI I) E) (st1 := [.inr (.inl (some (999, 0))), .inl (xs (I + 2)), .inl (xs (I + 1)), .inr (.inl (some (7, 0))), .inl v]) k_697 (fun _ _ => rfl) ?_
  refine ln_1 (pc1 := 700) (lv1 := lb (nI I) E) (st1 := [.inl (nI I), .inr (.inl (some (999, 0))), .inl (xs (I + 2)), .inl (xs (I + 1)), .inr (.inl (some (7, 0))), .inl v]) k_698 (fun _ _ => rfl) ?_
  refine ln_1 (pc1 := 701) (lv1 := lb (nI I) E) (st1 := [.inl 3, .inl (nI I), .inr (.inl (some (999, 0))), .inl (xs (I + 2)), .inl (xs (I + 1)), .inr (.inl (some (7, 0))), .inl v]) k_700 (fun _ _ => rfl) ?_
  refine ln_1 (pc1 := 702) (lv1 := lb (nI I) E) (st1 := [.inl (nI I + 3), .inr (.inl (some (999, 0))), .inl (xs (I + 2)), .inl (xs (I + 1)), .inr (.inl (some (7, 0))), .inl v]) k_701 (fun _ _ => rfl) ?_
  refine ln_ia (n := I + 3) (pc1 := 703) (st1 := [.inl (xs (I + 2)), .inl (xs (I + 1)), .inr (.inl (some (7, 0))), .inl v]) k_702 (fun _ _ => rfl) (nI_add I 3) (by omega) hL ?_
  refine ln_v (a := 145) (q := (7, 0)) (as := [.inr (some (7, 0)), .inl (xs (I + 1)), .inl (xs (I + 2)), .inl (xs (I + 3))]) (r := [.inl v]) (nx := 706) k_703 (fun _ _ => rfl) c2 (fun _ _ => rfl) ⟨rfl, rfl⟩ (Nat.le_of_ble_eq_true rfl) ⟨by omega, by omega⟩ ?_
  refine ln_if (P := v = v) (pc1 := 884) (pc2 := 709) (r := []) k_706 (fun _ _ => rfl) (fun _ => ?_) (fun z => absurd rfl z)
  exact hk _ _ _ _ _ ((hb.thr 0).mono (by omega)) (by omega) (by omega)
theorem lc_10 (hI : I + 6 ≤ L) (hL : L ≤ 3072) (hb : JI b ρ) (hbb : b + 50500 < 2 ^ 26) (hc : cs + 1 ≤ 601024 ∧ ss + 6 ≤ 7293034) (hk : ∀ E' ρ' τ' cs' ss', JI (b + 50500) ρ' → cs' ≤ cs + 1 → ss' ≤ ss + 6 → LN L xs c 884 (lb (nI I) E') [] ρ' τ' cs' ss') : LN L xs c 711 (lb (nI I) E) [] ρ τ cs ss := by
  obtain ⟨v, c1, c2⟩ := look_partition (d := 4) (e := 7) (x1 := (xs (I + 1))) (x2 := (xs (I + 2))) hb.1 (by omega)
  refine ln_1 (pc1 := 712) (lv1 := lb (nI I) E) (st1 := [.inr (.inl (some (6, 0)))]) k_711 (fun _ _ => rfl) ?_
  refine ln_1 (pc1 := 713) (lv1 := lb (nI I) E) (st1 := [.inr (.inl (some (999, 0))), .inr (.inl (some (6, 0)))]) k_712 (fun _ _ => rfl) ?_
  refine ln_1 (pc1 := 715) (lv1 := lb (nI I) E) (st1 := [.inl (nI I), .inr (.inl (some (999, 0))), .inr (.inl (some (6, 0)))]) k_713 (fun _ _ => rfl) ?_
  refine ln_1 (pc1 := 716) (lv1 := lb (nI I) E) (st1 := [.inl 1, .inl (nI I), .inr (.inl (some (999, 0))), .inr (.inl (some (6, 0)))]) k_715 (fun _ _ => rfl) ?_
  refine ln_1 (pc1 := 717) (lv1 := lb (nI I) E) (st1 := [.inl (nI I + 1), .inr (.inl (some (999, 0))), .inr (.inl (some (6, 0)))]) k_716 (fun _ _ => rfl) ?_
  refine ln_ia (n := I + 1) (pc1 := 718) (st1 := [.inr (.inl (some (6, 0)))]) k_717 (fun _ _ => rfl) (nI_add I 1) (by omega) hL ?_
  refine ln_1 (pc1 := 719) (lv1 := lb (nI I) E) (st1 := [.inr (.inl (some (999, 0))), .inl (xs (I + 1)), .inr (.inl (some (6, 0)))]) k_718 (fun _ _ => rfl) ?_
  refine ln_1 (pc1 := 721) (lv1 := lb (nI I) E) (st1 := [.inl (nI I), .inr (.inl (some (999, 0))), .inl (xs (I + 1)), .inr (.inl (some (6, 0)))]) k_719 (fun _ _ => rfl) ?_
  refine ln_1 (pc1 := 722) (lv1 := lb (nI I) E) (st1 := [.inl 2, .inl (nI I), .inr (.inl (some (999, 0))), .inl (xs (I + 1)), .inr (.inl (some (6, 0)))]) k_721 (fun _ _ => rfl) ?_
  refine ln_1 (pc1 := 723) (lv1 := lb (nI I) E) (st1 := [.inl (nI I + 2), .inr (.inl (some (999, 0))), .inl (xs (I + 1)), .inr (.inl (some (6, 0)))]) k_722 (fun _ _ => rfl) ?_
  refine ln_ia (n := I + 2) (pc1 := 724) (st1 := [.inl (xs (I + 1)), .inr (.inl (some (6, 0)))]) k_723 (fun _ _ => rfl) (nI_add I 2) (by omega) hL ?_
  refine ln_v (a := 81) (q := (6, 0)) (as := [.inr (some (6, 0)), .inl (xs (I + 1)), .inl (xs (I + 2))]) (r := []) (nx := 727) k_724 (fun _ _ => rfl) c1 (fun _ _ => rfl) ⟨rfl, rfl⟩ (Nat.le_of_ble_eq_true rfl) ⟨by omega, by omega⟩ ?_
  refine ln_1 (pc1 := 728) (lv1 := lb (nI I) E) (st1 := [.inr (.inl (some (7, 0))), .inl v]) k_727 (fun _ _ => rfl) ?_
  refine ln_1 (pc1 := 729) (lv1 := lb (nI I) E) (st1 := [.inr (.inl (some (999, 0))), .inr (.inl (some (7, 0))), .inl v]) k_728 (fun _ _ => rfl) ?_
  refine ln_1 (pc1 := 731) (lv1 := lb (nI I) E) (st1 := [.inl (nI I), .inr (.inl (some (999, 0))), .inr (.inl (some (7, 0))), .inl v]) k_729 (fun _ _ => rfl) ?_
  refine ln_1 (pc1 := 732) (lv1 := lb (nI I) E) (st1 := [.inl 1, .inl (nI I), .inr (.inl (some (999, 0))), .inr (.inl (some (7, 0))), .inl v]) k_731 (fun _ _ => rfl) ?_
  refine ln_1 (pc1 := 733) (lv1 := lb (nI I) E) (st1 := [.inl (nI I + 1), .inr (.inl (some (999, 0))), .inr (.inl (some (7, 0))), .inl v]) k_732 (fun _ _ => rfl) ?_
  refine ln_ia (n := I + 1) (pc1 := 734) (st1 := [.inr (.inl (some (7, 0))), .inl v]) k_733 (fun _ _ => rfl) (nI_add I 1) (by omega) hL ?_
  refine ln_1 (pc1 := 735) (lv1 := lb (nI I) E) (st1 := [.inr (.inl (some (999, 0))), .inl (xs (I + 1)), .inr (.inl (some (7, 0))), .inl v]) k_734 (fun _ _ => rfl) ?_
  refine ln_1 (pc1 := 737) (lv1 := lb (nI I) E) (st1 := [.inl (nI I), .inr (.inl (some (999, 0))), .inl (xs (I + 1)), .inr (.inl (some (7, 0))), .inl v]) k_735 (fun _ _ => rfl) ?_
  refine ln_1 (pc1 := 738) (lv1 := lb (nI I) E) (st1 := [.inl 2, .inl (nI I), .inr (.inl (some (999, 0))), .inl (xs (I + 1)), .inr (.inl (some (7, 0))), .inl v]) k_737 (fun _ _ => rfl) ?_
  refine ln_1 (pc1 := 739) (lv1 := lb (nI I) E) (st1 := [.inl (nI I + 2), .inr (.inl (some (999, 0))), .inl (xs (I + 1)), .inr (.inl (some (7, 0))), .inl v]) k_738 (fun _ _ => rfl) ?_
  refine ln_ia (n := I + 2) (pc1 := 740) (st1 := [.inl (xs (I + 1)), .inr (.inl (some (7, 0))), .inl v]) k_739 (fun _ _ => rfl) (nI_add I 2) (by omega) hL ?_
  refine ln_v (a := 146) (q := (7, 0)) (as := [.inr (some (7, 0)), .inl (xs (I + 1)), .inl (xs (I + 2))]) (r := [.inl v]) (nx := 743) k_740 (fun _ _ => rfl) c2 (fun _ _ => rfl) ⟨rfl, rfl⟩ (Nat.le_of_ble_eq_true rfl) ⟨by omega, by omega⟩ ?_
  refine ln_if (P := v = v) (pc1 := 884) (pc2 := 746) (r := []) k_743 (fun _ _ => rfl) (fun _ => ?_) (fun z => absurd rfl z)
  exact hk _ _ _ _ _ ((hb.thr 0).mono (by omega)) (by omega) (by omega)
theorem lc_11 (hI : I + 6 ≤ L) (hL : L ≤ 3072) (hb : JI b ρ) (hbb : b + 50500 < 2 ^ 26) (hc : cs + 1 ≤ 601024 ∧ ss + 6 ≤ 7293034) (hk : ∀ E' ρ' τ' cs' ss', JI (b + 50500) ρ' → cs' ≤ cs + 1 → ss' ≤ ss + 6 → LN L xs c 884 (lb (nI I) E') [] ρ' τ' cs' ss') : LN L xs c 748 (lb (nI I) E) [] ρ τ cs ss := by
  obtain ⟨v, c1, c2⟩ := look_traffic (d := 7) (e := 7) (x1 := (xs (I + 1))) (x2 := (xs (I + 2))) hb.1
  refine ln_1 (pc1 := 749) (lv1 := lb (nI I) E) (st1 := [.inr (.inl (some (6, 0)))]) k_748 (fun _ _ => rfl) ?_
  refine ln_1 (pc1 := 750) (lv1 := lb (nI I) E) (st1 := [.inr (.inl (some (999, 0))), .inr (.inl (some (6, 0)))]) k_749 (fun _ _ => rfl) ?_
  refine ln_1 (pc1 := 752) (lv1 := lb (nI I) E) (st1 := [.inl (nI I), .inr (.inl (some (999, 0))), .inr (.inl (some (6, 0)))]) k_750 (fun _ _ => rfl) ?_
  refine ln_1 (pc1 := 753) (lv1 := lb (nI I) E) (st1 := [.inl 1, .inl (nI I), .inr (.inl (some (999, 0))), .inr (.inl (some (6, 0)))]) k_752 (fun _ _ => rfl) ?_
  refine ln_1 (pc1 := 754) (lv1 := lb (nI I) E) (st1 := [.inl (nI I + 1), .inr (.inl (some (999, 0))), .inr (.inl (some (6, 0)))]) k_753 (fun _ _ => rfl) ?_
  refine ln_ia (n := I + 1) (pc1 := 755) (st1 := [.inr (.inl (some (6, 0)))]) k_754 (fun _ _ => rfl) (nI_add I 1) (by omega) hL ?_
  refine ln_1 (pc1 := 756) (lv1 := lb (nI I) E) (st1 := [.inr (.inl (some (999, 0))), .inl (xs (I + 1)), .inr (.inl (some (6, 0)))]) k_755 (fun _ _ => rfl) ?_
  refine ln_1 (pc1 := 758) (lv1 := lb (nI I) E) (st1 := [.inl (nI I), .inr (.inl (some (999, 0))), .inl (xs (I + 1)), .inr (.inl (some (6, 0)))]) k_756 (fun _ _ => rfl) ?_
  refine ln_1 (pc1 := 759) (lv1 := lb (nI I) E) (st1 := [.inl 2, .inl (nI I), .inr (.inl (some (999, 0))), .inl (xs (I + 1)), .inr (.inl (some (6, 0)))]) k_758 (fun _ _ => rfl) ?_
  refine ln_1 (pc1 := 760) (lv1 := lb (nI I) E) (st1 := [.inl (nI I + 2), .inr (.inl (some (999, 0))), .inl (xs (I + 1)), .inr (.inl (some (6, 0)))]) k_759 (fun _ _ => rfl) ?_
  refine ln_ia (n := I + 2) (pc1 := 761) (st1 := [.inl (xs (I + 1)), .inr (.inl (some (6, 0)))]) k_760 (fun _ _ => rfl) (nI_add I 2) (by omega) hL ?_
  refine ln_v (a := 82) (q := (6, 0)) (as := [.inr (some (6, 0)), .inl (xs (I + 1)), .inl (xs (I + 2))]) (r := []) (nx := 764) k_761 (fun _ _ => rfl) c1 (fun _ _ => rfl) ⟨rfl, rfl⟩ (Nat.le_of_ble_eq_true rfl) ⟨by omega, by omega⟩ ?_
  refine ln_1 (pc1 := 765) (lv1 := lb (nI I) E) (st1 := [.inr (.inl (some (7, 0))), .inl v]) k_764 (fun _ _ => rfl) ?_
  refine ln_1 (pc1 := 766) (lv1 := lb (nI I) E) (st1 := [.inr (.inl (some (999, 0))), .inr (.inl (some (7, 0))), .inl v]) k_765 (fun _ _ => rfl) ?_
  refine ln_1 (pc1 := 768) (lv1 := lb (nI I) E) (st1 := [.inl (nI I), .inr (.inl (some (999, 0))), .inr (.inl (some (7, 0))), .inl v]) k_766 (fun _ _ => rfl) ?_
  refine ln_1 (pc1 := 769) (lv1 := lb (nI I) E) (st1 := [.inl 1, .inl (nI I), .inr (.inl (some (999, 0))), .inr (.inl (some (7, 0))), .inl v]) k_768 (fun _ _ => rfl) ?_
  refine ln_1 (pc1 := 770) (lv1 := lb (nI I) E) (st1 := [.inl (nI I + 1), .inr (.inl (some (999, 0))), .inr (.inl (some (7, 0))), .inl v]) k_769 (fun _ _ => rfl) ?_
  refine ln_ia (n := I + 1) (pc1 := 771) (st1 := [.inr (.inl (some (7, 0))), .inl v]) k_770 (fun _ _ => rfl) (nI_add I 1) (by omega) hL ?_
  refine ln_1 (pc1 := 772) (lv1 := lb (nI I) E) (st1 := [.inr (.inl (some (999, 0))), .inl (xs (I + 1)), .inr (.inl (some (7, 0))), .inl v]) k_771 (fun _ _ => rfl) ?_
  refine ln_1 (pc1 := 774) (lv1 := lb (nI I) E) (st1 := [.inl (nI I), .inr (.inl (some (999, 0))), .inl (xs (I + 1)), .inr (.inl (some (7, 0))), .inl v]) k_772 (fun _ _ => rfl) ?_
  refine ln_1 (pc1 := 775) (lv1 := lb (nI I) E) (st1 := [.inl 2, .inl (nI I), .inr (.inl (some (999, 0))), .inl (xs (I + 1)), .inr (.inl (some (7, 0))), .inl v]) k_774 (fun _ _ => rfl) ?_
  refine ln_1 (pc1 := 776) (lv1 := lb (nI I) E) (st1 := [.inl (nI I + 2), .inr (.inl (some (999, 0))), .inl (xs (I + 1)), .inr (.inl (some (7, 0))), .inl v]) k_775 (fun _ _ => rfl) ?_
  refine ln_ia (n := I + 2) (pc1 := 777) (st1 := [.inl (xs (I + 1)), .inr (.inl (some (7, 0))), .inl v]) k_776 (fun _ _ => rfl) (nI_add I 2) (by omega) hL ?_
  refine ln_v (a := 147) (q := (7, 0)) (as := [.inr (some (7, 0)), .inl (xs (I + 1)), .inl (xs (I + 2))]) (r := [.inl v]) (nx := 780) k_777 (fun _ _ => rfl) c2 (fun _ _ => rfl) ⟨rfl, rfl⟩ (Nat.le_of_ble_eq_true rfl) ⟨by omega, by omega⟩ ?_
  refine ln_if (P := v = v) (pc1 := 884) (pc2 := 783) (r := []) k_780 (fun _ _ => rfl) (fun _ => ?_) (fun z => absurd rfl z)
  exact hk _ _ _ _ _ ((hb.thr 0).mono (by omega)) (by omega) (by omega)
theorem lc_12 (hI : I + 6 ≤ L) (hL : L ≤ 3072) (hb : JI b ρ) (hbb : b + 50500 < 2 ^ 26) (hc : cs + 1 ≤ 601024 ∧ ss + 6 ≤ 7293034) (hk : ∀ E' ρ' τ' cs' ss', JI (b + 50500) ρ' → cs' ≤ cs + 1 → ss' ≤ ss + 6 → LN L xs c 884 (lb (nI I) E') [] ρ' τ' cs' ss') : LN L xs c 785 (lb (nI I) E) [] ρ τ cs ss := by
  obtain ⟨v, c1, c2⟩ := look_word (d := 6) (e := 7) (x1 := (xs (I + 1))) (x2 := (xs (I + 2))) hb.1
  refine ln_1 (pc1 := 786) (lv1 := lb (nI I) E) (st1 := [.inr (.inl (some (6, 0)))]) k_785 (fun _ _ => rfl) ?_
  refine ln_1 (pc1 := 787) (lv1 := lb (nI I) E) (st1 := [.inr (.inl (some (999, 0))), .inr (.inl (some (6, 0)))]) k_786 (fun _ _ => rfl) ?_
  refine ln_1 (pc1 := 789) (lv1 := lb (nI I) E) (st1 := [.inl (nI I), .inr (.inl (some (999, 0))), .inr (.inl (some (6, 0)))]) k_787 (fun _ _ => rfl) ?_
  refine ln_1 (pc1 := 790) (lv1 := lb (nI I) E) (st1 := [.inl 1, .inl (nI I), .inr (.inl (some (999, 0))), .inr (.inl (some (6, 0)))]) k_789 (fun _ _ => rfl) ?_
  refine ln_1 (pc1 := 791) (lv1 := lb (nI I) E) (st1 := [.inl (nI I + 1), .inr (.inl (some (999, 0))), .inr (.inl (some (6, 0)))]) k_790 (fun _ _ => rfl) ?_
  refine ln_ia (n := I + 1) (pc1 := 792) (st1 := [.inr (.inl (some (6, 0)))]) k_791 (fun _ _ => rfl) (nI_add I 1) (by omega) hL ?_
  refine ln_1 (pc1 := 793) (lv1 := lb (nI I) E) (st1 := [.inr (.inl (some (999, 0))), .inl (xs (I + 1)), .inr (.inl (some (6, 0)))]) k_792 (fun _ _ => rfl) ?_
  refine ln_1 (pc1 := 795) (lv1 := lb (nI I) E) (st1 := [.inl (nI I), .inr (.inl (some (999, 0))), .inl (xs (I + 1)), .inr (.inl (some (6, 0)))]) k_793 (fun _ _ => rfl) ?_
  refine ln_1 (pc1 := 796) (lv1 := lb (nI I) E) (st1 := [.inl 2, .inl (nI I), .inr (.inl (some (999, 0))), .inl (xs (I + 1)), .inr (.inl (some (6, 0)))]) k_795 (fun _ _ => rfl) ?_
  refine ln_1 (pc1 := 797) (lv1 := lb (nI I) E) (st1 := [.inl (nI I + 2), .inr (.inl (some (999, 0))), .inl (xs (I + 1)), .inr (.inl (some (6, 0)))]) k_796 (fun _ _ => rfl) ?_
  refine ln_ia (n := I + 2) (pc1 := 798) (st1 := [.inl (xs (I + 1)), .inr (.inl (some (6, 0)))]) k_797 (fun _ _ => rfl) (nI_add I 2) (by omega) hL ?_
  refine ln_v (a := 83) (q := (6, 0)) (as := [.inr (some (6, 0)), .inl (xs (I + 1)), .inl (xs (I + 2))]) (r := []) (nx := 801) k_798 (fun _ _ => rfl) c1 (fun _ _ => rfl) ⟨rfl, rfl⟩ (Nat.le_of_ble_eq_true rfl) ⟨by omega, by omega⟩ ?_
  refine ln_1 (pc1 := 802) (lv1 := lb (nI I) E) (st1 := [.inr (.inl (some (7, 0))), .inl v]) k_801 (fun _ _ => rfl) ?_
  refine ln_1 (pc1 := 803) (lv1 := lb (nI I) E) (st1 := [.inr (.inl (some (999, 0))), .inr (.inl (some (7, 0))), .inl v]) k_802 (fun _ _ => rfl) ?_
  refine ln_1 (pc1 := 805) (lv1 := lb (nI I) E) (st1 := [.inl (nI I), .inr (.inl (some (999, 0))), .inr (.inl (some (7, 0))), .inl v]) k_803 (fun _ _ => rfl) ?_
  refine ln_1 (pc1 := 806) (lv1 := lb (nI I) E) (st1 := [.inl 1, .inl (nI I), .inr (.inl (some (999, 0))), .inr (.inl (some (7, 0))), .inl v]) k_805 (fun _ _ => rfl) ?_
  refine ln_1 (pc1 := 807) (lv1 := lb (nI I) E) (st1 := [.inl (nI I + 1), .inr (.inl (some (999, 0))), .inr (.inl (some (7, 0))), .inl v]) k_806 (fun _ _ => rfl) ?_
  refine ln_ia (n := I + 1) (pc1 := 808) (st1 := [.inr (.inl (some (7, 0))), .inl v]) k_807 (fun _ _ => rfl) (nI_add I 1) (by omega) hL ?_
  refine ln_1 (pc1 := 809) (lv1 := lb (nI I) E) (st1 := [.inr (.inl (some (999, 0))), .inl (xs (I + 1)), .inr (.inl (some (7, 0))), .inl v]) k_808 (fun _ _ => rfl) ?_
  refine ln_1 (pc1 := 811) (lv1 := lb (nI I) E) (st1 := [.inl (nI I), .inr (.inl (some (999, 0))), .inl (xs (I + 1)), .inr (.inl (some (7, 0))), .inl v]) k_809 (fun _ _ => rfl) ?_
  refine ln_1 (pc1 := 812) (lv1 := lb (nI I) E) (st1 := [.inl 2, .inl (nI I), .inr (.inl (some (999, 0))), .inl (xs (I + 1)), .inr (.inl (some (7, 0))), .inl v]) k_811 (fun _ _ => rfl) ?_
  refine ln_1 (pc1 := 813) (lv1 := lb (nI I) E) (st1 := [.inl (nI I + 2), .inr (.inl (some (999, 0))), .inl (xs (I + 1)), .inr (.inl (some (7, 0))), .inl v]) k_812 (fun _ _ => rfl) ?_
  refine ln_ia (n := I + 2) (pc1 := 814) (st1 := [.inl (xs (I + 1)), .inr (.inl (some (7, 0))), .inl v]) k_813 (fun _ _ => rfl) (nI_add I 2) (by omega) hL ?_
  refine ln_v (a := 148) (q := (7, 0)) (as := [.inr (some (7, 0)), .inl (xs (I + 1)), .inl (xs (I + 2))]) (r := [.inl v]) (nx := 817) k_814 (fun _ _ => rfl) c2 (fun _ _ => rfl) ⟨rfl, rfl⟩ (Nat.le_of_ble_eq_true rfl) ⟨by omega, by omega⟩ ?_
  refine ln_if (P := v = v) (pc1 := 884) (pc2 := 820) (r := []) k_817 (fun _ _ => rfl) (fun _ => ?_) (fun z => absurd rfl z)
  exact hk _ _ _ _ _ ((hb.thr 0).mono (by omega)) (by omega) (by omega)
theorem lc_13 (hI : I + 6 ≤ L) (hL : L ≤ 3072) (hb : JI b ρ) (hbb : b + 50500 < 2 ^ 26) (hc : cs + 1 ≤ 601024 ∧ ss + 6 ≤ 7293034) (hk : ∀ E' ρ' τ' cs' ss', JI (b + 50500) ρ' → cs' ≤ cs + 1 → ss' ≤ ss + 6 → LN L xs c 884 (lb (nI I) E') [] ρ' τ' cs' ss') : LN L xs c 822 (lb (nI I) E) [] ρ τ cs ss := by
  obtain ⟨v, c1, c2⟩ := look_error (d := 7) (e := 7) (x1 := (xs (I + 1))) (x2 := (xs (I + 2))) hb.1 (by omega)
  refine ln_1 (pc1 := 823) (lv1 := lb (nI I) E) (st1 := [.inr (.inl (some (6, 0)))]) k_822 (fun _ _ => rfl) ?_
  refine ln_1 (pc1 := 824) (lv1 := lb (nI I) E) (st1 := [.inr (.inl (some (999, 0))), .inr (.inl (some (6, 0)))]) k_823 (fun _ _ => rfl) ?_
  refine ln_1 (pc1 := 826) (lv1 := lb (nI I) E) (st1 := [.inl (nI I), .inr (.inl (some (999, 0))), .inr (.inl (some (6, 0)))]) k_824 (fun _ _ => rfl) ?_
  refine ln_1 (pc1 := 827) (lv1 := lb (nI I) E) (st1 := [.inl 1, .inl (nI I), .inr (.inl (some (999, 0))), .inr (.inl (some (6, 0)))]) k_826 (fun _ _ => rfl) ?_
  refine ln_1 (pc1 := 828) (lv1 := lb (nI I) E) (st1 := [.inl (nI I + 1), .inr (.inl (some (999, 0))), .inr (.inl (some (6, 0)))]) k_827 (fun _ _ => rfl) ?_
  refine ln_ia (n := I + 1) (pc1 := 829) (st1 := [.inr (.inl (some (6, 0)))]) k_828 (fun _ _ => rfl) (nI_add I 1) (by omega) hL ?_
  refine ln_1 (pc1 := 830) (lv1 := lb (nI I) E) (st1 := [.inr (.inl (some (999, 0))), .inl (xs (I + 1)), .inr (.inl (some (6, 0)))]) k_829 (fun _ _ => rfl) ?_
  refine ln_1 (pc1 := 832) (lv1 := lb (nI I) E) (st1 := [.inl (nI I), .inr (.inl (some (999, 0))), .inl (xs (I + 1)), .inr (.inl (some (6, 0)))]) k_830 (fun _ _ => rfl) ?_
  refine ln_1 (pc1 := 833) (lv1 := lb (nI I) E) (st1 := [.inl 2, .inl (nI I), .inr (.inl (some (999, 0))), .inl (xs (I + 1)), .inr (.inl (some (6, 0)))]) k_832 (fun _ _ => rfl) ?_
  refine ln_1 (pc1 := 834) (lv1 := lb (nI I) E) (st1 := [.inl (nI I + 2), .inr (.inl (some (999, 0))), .inl (xs (I + 1)), .inr (.inl (some (6, 0)))]) k_833 (fun _ _ => rfl) ?_
  refine ln_ia (n := I + 2) (pc1 := 835) (st1 := [.inl (xs (I + 1)), .inr (.inl (some (6, 0)))]) k_834 (fun _ _ => rfl) (nI_add I 2) (by omega) hL ?_
  refine ln_v (a := 84) (q := (6, 0)) (as := [.inr (some (6, 0)), .inl (xs (I + 1)), .inl (xs (I + 2))]) (r := []) (nx := 838) k_835 (fun _ _ => rfl) c1 (fun _ _ => rfl) ⟨rfl, rfl⟩ (Nat.le_of_ble_eq_true rfl) ⟨by omega, by omega⟩ ?_
  refine ln_1 (pc1 := 839) (lv1 := lb (nI I) E) (st1 := [.inr (.inl (some (7, 0))), .inl v]) k_838 (fun _ _ => rfl) ?_
  refine ln_1 (pc1 := 840) (lv1 := lb (nI I) E) (st1 := [.inr (.inl (some (999, 0))), .inr (.inl (some (7, 0))), .inl v]) k_839 (fun _ _ => rfl) ?_
  refine ln_1 (pc1 := 842) (lv1 := lb (nI I) E) (st1 := [.inl (nI I), .inr (.inl (some (999, 0))), .inr (.inl (some (7, 0))), .inl v]) k_840 (fun _ _ => rfl) ?_
  refine ln_1 (pc1 := 843) (lv1 := lb (nI I) E) (st1 := [.inl 1, .inl (nI I), .inr (.inl (some (999, 0))), .inr (.inl (some (7, 0))), .inl v]) k_842 (fun _ _ => rfl) ?_
  refine ln_1 (pc1 := 844) (lv1 := lb (nI I) E) (st1 := [.inl (nI I + 1), .inr (.inl (some (999, 0))), .inr (.inl (some (7, 0))), .inl v]) k_843 (fun _ _ => rfl) ?_
  refine ln_ia (n := I + 1) (pc1 := 845) (st1 := [.inr (.inl (some (7, 0))), .inl v]) k_844 (fun _ _ => rfl) (nI_add I 1) (by omega) hL ?_
  refine ln_1 (pc1 := 846) (lv1 := lb (nI I) E) (st1 := [.inr (.inl (some (999, 0))), .inl (xs (I + 1)), .inr (.inl (some (7, 0))), .inl v]) k_845 (fun _ _ => rfl) ?_
  refine ln_1 (pc1 := 848) (lv1 := lb (nI I) E) (st1 := [.inl (nI I), .inr (.inl (some (999, 0))), .inl (xs (I + 1)), .inr (.inl (some (7, 0))), .inl v]) k_846 (fun _ _ => rfl) ?_
  refine ln_1 (pc1 := 849) (lv1 := lb (nI I) E) (st1 := [.inl 2, .inl (nI I), .inr (.inl (some (999, 0))), .inl (xs (I + 1)), .inr (.inl (some (7, 0))), .inl v]) k_848 (fun _ _ => rfl) ?_
  refine ln_1 (pc1 := 850) (lv1 := lb (nI I) E) (st1 := [.inl (nI I + 2), .inr (.inl (some (999, 0))), .inl (xs (I + 1)), .inr (.inl (some (7, 0))), .inl v]) k_849 (fun _ _ => rfl) ?_
  refine ln_ia (n := I + 2) (pc1 := 851) (st1 := [.inl (xs (I + 1)), .inr (.inl (some (7, 0))), .inl v]) k_850 (fun _ _ => rfl) (nI_add I 2) (by omega) hL ?_
  refine ln_v (a := 149) (q := (7, 0)) (as := [.inr (some (7, 0)), .inl (xs (I + 1)), .inl (xs (I + 2))]) (r := [.inl v]) (nx := 854) k_851 (fun _ _ => rfl) c2 (fun _ _ => rfl) ⟨rfl, rfl⟩ (Nat.le_of_ble_eq_true rfl) ⟨by omega, by omega⟩ ?_
  refine ln_if (P := v = v) (pc1 := 884) (pc2 := 857) (r := []) k_854 (fun _ _ => rfl) (fun _ => ?_) (fun z => absurd rfl z)
  exact hk _ _ _ _ _ ((hb.thr 0).mono (by omega)) (by omega) (by omega)
theorem lc_14 (hI : I + 6 ≤ L) (hL : L ≤ 3072) (hb : JI b ρ) (hbb : b + 50500 < 2 ^ 26) (hc : cs + 1 ≤ 601024 ∧ ss + 6 ≤ 7293034) (hk : ∀ E' ρ' τ' cs' ss', JI (b + 50500) ρ' → cs' ≤ cs + 1 → ss' ≤ ss + 6 → LN L xs c 884 (lb (nI I) E') [] ρ' τ' cs' ss') : LN L xs c 859 (lb (nI I) E) [] ρ τ cs ss := by
  obtain ⟨v, c1, c2⟩ := look_about (d := 7) (e := 7) (x1 := (xs (I + 1))) hb.1 (by omega)
  refine ln_1 (pc1 := 860) (lv1 := lb (nI I) E) (st1 := [.inr (.inl (some (6, 0)))]) k_859 (fun _ _ => rfl) ?_
  refine ln_1 (pc1 := 861) (lv1 := lb (nI I) E) (st1 := [.inr (.inl (some (999, 0))), .inr (.inl (some (6, 0)))]) k_860 (fun _ _ => rfl) ?_
  refine ln_1 (pc1 := 863) (lv1 := lb (nI I) E) (st1 := [.inl (nI I), .inr (.inl (some (999, 0))), .inr (.inl (some (6, 0)))]) k_861 (fun _ _ => rfl) ?_
  refine ln_1 (pc1 := 864) (lv1 := lb (nI I) E) (st1 := [.inl 1, .inl (nI I), .inr (.inl (some (999, 0))), .inr (.inl (some (6, 0)))]) k_863 (fun _ _ => rfl) ?_
  refine ln_1 (pc1 := 865) (lv1 := lb (nI I) E) (st1 := [.inl (nI I + 1), .inr (.inl (some (999, 0))), .inr (.inl (some (6, 0)))]) k_864 (fun _ _ => rfl) ?_
  refine ln_ia (n := I + 1) (pc1 := 866) (st1 := [.inr (.inl (some (6, 0)))]) k_865 (fun _ _ => rfl) (nI_add I 1) (by omega) hL ?_
  refine ln_v (a := 85) (q := (6, 0)) (as := [.inr (some (6, 0)), .inl (xs (I + 1))]) (r := []) (nx := 869) k_866 (fun _ _ => rfl) c1 (fun _ _ => rfl) ⟨rfl, rfl⟩ (Nat.le_of_ble_eq_true rfl) ⟨by omega, by omega⟩ ?_
  refine ln_1 (pc1 := 870) (lv1 := lb (nI I) E) (st1 := [.inr (.inl (some (7, 0))), .inl v]) k_869 (fun _ _ => rfl) ?_
  refine ln_1 (pc1 := 871) (lv1 := lb (nI I) E) (st1 := [.inr (.inl (some (999, 0))), .inr (.inl (some (7, 0))), .inl v]) k_870 (fun _ _ => rfl) ?_
  refine ln_1 (pc1 := 873) (lv1 := lb (nI I) E) (st1 := [.inl (nI I), .inr (.inl (some (999, 0))), .inr (.inl (some (7, 0))), .inl v]) k_871 (fun _ _ => rfl) ?_
  refine ln_1 (pc1 := 874) (lv1 := lb (nI I) E) (st1 := [.inl 1, .inl (nI I), .inr (.inl (some (999, 0))), .inr (.inl (some (7, 0))), .inl v]) k_873 (fun _ _ => rfl) ?_
  refine ln_1 (pc1 := 875) (lv1 := lb (nI I) E) (st1 := [.inl (nI I + 1), .inr (.inl (some (999, 0))), .inr (.inl (some (7, 0))), .inl v]) k_874 (fun _ _ => rfl) ?_
  refine ln_ia (n := I + 1) (pc1 := 876) (st1 := [.inr (.inl (some (7, 0))), .inl v]) k_875 (fun _ _ => rfl) (nI_add I 1) (by omega) hL ?_
  refine ln_v (a := 150) (q := (7, 0)) (as := [.inr (some (7, 0)), .inl (xs (I + 1))]) (r := [.inl v]) (nx := 879) k_876 (fun _ _ => rfl) c2 (fun _ _ => rfl) ⟨rfl, rfl⟩ (Nat.le_of_ble_eq_true rfl) ⟨by omega, by omega⟩ ?_
  refine ln_if (P := v = v) (pc1 := 884) (pc2 := 882) (r := []) k_879 (fun _ _ => rfl) (fun _ => ?_) (fun z => absurd rfl z)
  exact hk _ _ _ _ _ ((hb.thr 0).mono (by omega)) (by omega) (by omega)
end TURNS
