/-! A partition's memory: words on one side, bytes on the other. -/
theorem an4 : ∀ n, n < 1024 → nI n &&& (-4) = nI (n / 4 * 4) := by decide +kernel
theorem an3 : ∀ n, n < 1024 → (nI n &&& 3) * 8 = nI (8 * (n % 4)) := by decide +kernel
theorem ash : ∀ n, n < 1024 → nI n >>> ((2 : Int32) &&& 31) = nI (n / 4) := by decide +kernel
theorem am1 : ∀ n, n < 1024 → nI n &&& (nI 1 - 1) = nI (n % 1) := by decide +kernel
theorem am2 : ∀ n, n < 1024 → nI n &&& (nI 2 - 1) = nI (n % 2) := by decide +kernel
theorem am4 : ∀ n, n < 1024 → nI n &&& (nI 4 - 1) = nI (n % 4) := by decide +kernel
def in01 (x y : Int32) : Int32 := if ¬ x < 0 ∧ x < y then 1 else 0
section MEM
variable {d b p n s j i : Nat} {σ μ σ0 μ0 : mSg} {x y v : Int32}
theorem S101 : Sp (d + 1) 101 [.inl x, .inl y] μ (.inl (some (.inl (in01 x y)))) μ := by
  unfold in01
  by_cases h : x < 0
  · rw [if_neg (fun c => c.1 h)]; exact P101_1 h
  · by_cases h2 : x < y
    · rw [if_pos ⟨h, h2⟩]; exact P101_2 h h2
    · rw [if_neg (fun c => h2 c.2)]; exact P101_3 h h2
theorem in01_0 (h : ¬ (¬ x < 0 ∧ x < y)) : in01 x y = 0 := if_neg h
theorem in01_1 (h1 : ¬ x < 0) (h2 : x < y) : in01 x y = 1 := if_pos ⟨h1, h2⟩
theorem and_s (hs : s = 1 ∨ s = 2 ∨ s = 4) (hn : n < 1024) : nI n &&& (nI s - 1) = nI (n % s) := by
  rcases hs with rfl | rfl | rfl
  · exact am1 n hn
  · exact am2 n hn
  · exact am4 n hn
/-- is it a place of s bytes? both say the same -/
theorem place_both (a : Int32) (hs : s = 1 ∨ s = 2 ∨ s = 4) : (∃ n, n < 1024 ∧ n % s = 0 ∧ a = nI n ∧ (∀ d σ, Sp (d + 1) 16 [.inl a, .inl (nI s)] σ (.inl (some (.inl 1))) σ) ∧ ∀ d μ, Sp (d + 2) 107 [.inl a, .inl (nI s)] μ (.inl (some (.inl 1))) μ) ∨ ((∀ d σ, Sp (d + 1) 16 [.inl a, .inl (nI s)] σ (.inl (some (.inl 0))) σ) ∧ ∀ d μ, Sp (d + 2) 107 [.inl a, .inl (nI s)] μ (.inl (some (.inl 0))) μ) := by
  by_cases h0 : a < 0
  · exact Or.inr ⟨fun d σ => P16_1 h0, fun d μ => P107_1 S101 (in01_0 (fun c => c.1 h0))⟩
  · by_cases h1 : a < 1024
    · obtain ⟨n, hn, rfl⟩ := of_lt (n := 1024) (by decide) h0 h1
      have hne : ¬ nI s = 0 := by rcases hs with rfl | rfl | rfl <;> decide
      have hrem : nI n - nI n / nI s * nI s = nI (n % s) := pk_rem (by omega) (by omega) (by omega)
      have hw : ¬ in01 (nI n) 1024 = 0 := by rw [in01_1 h0 h1]; decide
      have hlt : n % s < s := Nat.mod_lt _ (by omega)
      by_cases hm : n % s = 0
      · exact Or.inl ⟨n, hn, hm, rfl, fun d σ => P16_2 h0 h1 (by rw [and_s hs hn, hm]; rfl), fun d μ => P107_2 S101 hw hne (by rw [hrem, hm]; rfl)⟩
      · have hz : ¬ nI (n % s) = 0 := nI_ne0 (by omega) (by omega)
        exact Or.inr ⟨fun d σ => P16_3 h0 h1 (by rw [and_s hs hn]; exact hz), fun d μ => P107_3 S101 hw hne (by rw [hrem]; exact hz)⟩
    · exact Or.inr ⟨fun d σ => P16_4 h0 h1, fun d μ => P107_1 S101 (in01_0 (fun c => h1 c.2))⟩
theorem S16 (hn : n < 1024) (h4 : n % 4 = 0) : Sp (d + 1) 16 [.inl (nI n), .inl 4] σ (.inl (some (.inl 1))) σ := P16_2 (nI_pos (by omega)) ((nI_ltI (by omega) (by decide)).mpr hn) (by
  have h := am4 n hn
  rw [h4] at h
  exact h)
theorem S17 (hn : n < 1024) (h4 : n % 4 = 0) : Sp (d + 2) 17 [.inr (some (3, p)), .inl (nI n)] σ (.inl (some (.inl (σ 15 p (n / 4))))) σ := by
  have h := P17_2 (d := d + 1) (r0 := p) (σ := σ) (x1 := nI n) (S16 hn h4) (by decide) (by rw [ash n hn]; exact nI_in (by omega) (by decide))
  rw [ash n hn, nI_clamp (by omega)] at h
  exact h
theorem S18 (hn : n < 1024) (h4 : n % 4 = 0) : Sp (d + 2) 18 [.inr (some (3, p)), .inl (nI n), .inl v] σ (.inl none) (mq_up σ 15 p (n / 4) v) := by
  have h := P18_2 (d := d + 1) (r0 := p) (σ := σ) (x1 := nI n) (x2 := v) (S16 hn h4) (by decide) (by rw [ash n hn]; exact nI_in (by omega) (by decide))
  rw [ash n hn, nI_clamp (by omega)] at h
  exact h
theorem S21 (hn : n < 1024) : Sp (d + 1) 21 [.inl (nI n)] σ (.inl (some (.inl (nI (8 * (n % 4)))))) σ := by
  rw [← an3 n hn]
  exact P21_1
theorem S19 (hn : n < 1024) : Sp (d + 3) 19 [.inr (some (3, p)), .inl (nI n)] σ (.inl (some (.inl (((σ 15 p (n / 4)).toUInt32 >>> ((nI (8 * (n % 4))).toUInt32 &&& Int32.toUInt32 31)).toInt32)))) σ := by
  have h := S17 (d := d) (p := p) (σ := σ) (n := n / 4 * 4) (by omega) (by omega)
  rw [show n / 4 * 4 / 4 = n / 4 by omega] at h
  exact P19_1 (by rw [an4 n hn]; exact h) (S21 hn)
/-- a word with s bytes from i on out of v -/
def wNew (w v : Int32) (i s : Nat) : Int32 := (w &&& (((if s = 4 then (-1 : Int32) else (((1 : Int32) <<< ((nI s * 8) &&& 31)) - 1)) <<< (nI (8 * i) &&& 31)) ^^^ (-1))) ||| ((v <<< (nI (8 * i) &&& 31)) &&& ((if s = 4 then (-1 : Int32) else (((1 : Int32) <<< ((nI s * 8) &&& 31)) - 1)) <<< (nI (8 * i) &&& 31)))
theorem S20 (hn : n < 1024) (hs : s = 1 ∨ s = 2 ∨ s = 4) : Sp (d + 3) 20 [.inr (some (3, p)), .inl (nI n), .inl (nI s), .inl v] σ (.inl none) (mq_up σ 15 p (n / 4) (wNew (σ 15 p (n / 4)) v (n % 4) s)) := by
  have h := S17 (d := d) (p := p) (σ := σ) (n := n / 4 * 4) (by omega) (by omega)
  rw [show n / 4 * 4 / 4 = n / 4 by omega, ← an4 n hn] at h
  have h18 := fun v => S18 (d := d) (p := p) (σ := σ) (n := n / 4 * 4) (v := v) (by omega) (by omega)
  rw [show n / 4 * 4 / 4 = n / 4 by omega, ← an4 n hn] at h18
  by_cases h4 : s = 4
  · subst h4
    exact P20_1 rfl (S21 hn) h (S21 hn) (h18 _)
  · have hne : ¬ nI s = 4 := by rcases hs with rfl | rfl | rfl <;> first | decide | exact absurd rfl h4
    unfold wNew
    rw [if_neg h4]
    exact P20_2 hne (S21 hn) h (S21 hn) (h18 _)
theorem wNew_b {w : Int32} {k m : Nat} (hi : i < 4) (hs : s = 1 ∨ s = 2 ∨ s = 4) (his : i + s ≤ 4) (hk : k < 4) (hm : m < 8) : bt (wNew w v i s) (8 * k + m) = if i ≤ k ∧ k < i + s then bt v (8 * (k - i) + m) else bt w (8 * k + m) := by
  refine wr_b w v _ hi (mk_b i s hi _ ?_ his) hk hm
  rcases hs with rfl | rfl | rfl
  · intro z hz
    rw [if_neg (by decide), show ((1 : Int32) <<< ((nI 1 * 8) &&& 31)) - 1 = 255 by decide]
    exact b_255 z
  · intro z hz
    rw [if_neg (by decide), show ((1 : Int32) <<< ((nI 2 * 8) &&& 31)) - 1 = 65535 by decide]
    exact b_65535 z
  · intro z hz
    rw [if_pos rfl, b_m1 z hz]
    simp [hz]
theorem wNew_byt {w : Int32} {k : Nat} (hi : i < 4) (hs : s = 1 ∨ s = 2 ∨ s = 4) (his : i + s ≤ 4) (hk : k < 4) : byt (wNew w v i s) k = if i ≤ k ∧ k < i + s then byt v (k - i) else byt w k := by
  by_cases h : i ≤ k ∧ k < i + s
  · rw [if_pos h]
    refine i8_ext (fun m hm => ?_)
    rw [b_sshr (8 * k) (by omega) _ (by omega), if_pos (by omega), wNew_b hi hs his hk hm, if_pos h, b_sshr (8 * (k - i)) (by omega) _ (by omega), if_pos (by omega)]
  · rw [if_neg h]
    refine i8_ext (fun m hm => ?_)
    rw [b_sshr (8 * k) (by omega) _ (by omega), if_pos (by omega), wNew_b hi hs his hk hm, if_neg h, b_sshr (8 * k) (by omega) _ (by omega), if_pos (by omega)]
/-! the reference's bytes -/
theorem ld_step {acc x3 : Int32} {r : mRz} {ω : mSg} {k : Nat} (hx : 1024 * p + n + k < 4096) (h : Rn d 108 8 [(0, .inr (some (7, 0))), (1, .inl (nI p)), (2, .inl (nI n)), (3, .inl x3), (4, .inl ((acc <<< ((8 : Int32) &&& 31)) ||| (μ 30 0 (1024 * p + n + k) &&& 255))), (5, .inl (nI k + (-1)))] [] μ r ω) : Rn d 108 8 [(0, .inr (some (7, 0))), (1, .inl (nI p)), (2, .inl (nI n)), (3, .inl x3), (4, .inl acc), (5, .inl (nI k))] [] μ r ω := by
  have e : 1024 * nI p + nI n + nI k = nI (1024 * p + n + k) := by rw [show (1024 : Int32) = nI 1024 from rfl, ix_lin, nI_add]
  refine P108_8_2 (nI_pos (by omega)) (by rw [e]; exact nI_in hx (by decide)) ?_
  rw [e, nI_clamp (by omega)]
  exact h
theorem S108 (hs : s = 1 ∨ s = 2 ∨ s = 4) (hx : 1024 * p + n + s ≤ 4096) : Sp (d + 1) 108 [.inr (some (7, 0)), .inl (nI p), .inl (nI n), .inl (nI s)] μ (.inl (some (.inl (if s = 1 then v1 (μ 30 0 (1024 * p + n)) else if s = 2 then v2 (μ 30 0 (1024 * p + n + 1)) (μ 30 0 (1024 * p + n)) else v4 (μ 30 0 (1024 * p + n + 3)) (μ 30 0 (1024 * p + n + 2)) (μ 30 0 (1024 * p + n + 1)) (μ 30 0 (1024 * p + n)))))) μ := by
  refine P108_1 ?_
  rcases hs with rfl | rfl | rfl
  · exact ld_step (k := 0) (by omega) (P108_8_1 (by decide))
  · exact ld_step (k := 1) (by omega) (ld_step (k := 0) (by omega) (P108_8_1 (by decide)))
  · exact ld_step (k := 3) (by omega) (ld_step (k := 2) (by omega) (ld_step (k := 1) (by omega) (ld_step (k := 0) (by omega) (P108_8_1 (by decide)))))
def mSt (μ : mSg) (a : Nat) (v : Int32) : Nat → mSg
  | 0 => μ
  | k + 1 => mq_up (mSt μ a v k) 30 0 (a + k) (byt v k)
theorem L109 (hs : s ≤ 4) (hx : 1024 * p + n + s ≤ 4096) {r : mRz} {ω : mSg} : ∀ m k, k + m = s → Rn d 109 3 [(0, .inr (some (7, 0))), (1, .inl (nI p)), (2, .inl (nI n)), (3, .inl (nI s)), (4, .inl v), (5, .inl (nI s))] [] (mSt μ (1024 * p + n) v s) r ω → Rn d 109 3 [(0, .inr (some (7, 0))), (1, .inl (nI p)), (2, .inl (nI n)), (3, .inl (nI s)), (4, .inl v), (5, .inl (nI k))] [] (mSt μ (1024 * p + n) v k) r ω
  | 0, k, h, hz => by
    have e : k = s := by omega
    rw [e]; exact hz
  | m + 1, k, h, hz => by
    have ih := L109 hs hx m (k + 1) (by omega) hz
    have e : 1024 * nI p + nI n + nI k = nI (1024 * p + n + k) := by rw [show (1024 : Int32) = nI 1024 from rfl, ix_lin, nI_add]
    refine P109_3_1 ((nI_ltI (by omega) (by omega)).mpr (by omega)) (by rw [e]; exact nI_in (by omega) (by decide)) ?_
    rw [e, nI_clamp (by omega), nI_1, i8_i8, show (8 : Int32) * nI k = nI (8 * k) from nI_mul 8 k]
    exact ih
theorem S109 (hs : s ≤ 4) (hx : 1024 * p + n + s ≤ 4096) : Sp (d + 1) 109 [.inr (some (7, 0)), .inl (nI p), .inl (nI n), .inl (nI s), .inl v] μ (.inl none) (mSt μ (1024 * p + n) v s) := by
  refine P109_1 (L109 (d := d) hs hx s 0 (by omega) (P109_3_2 ?_))
  exact fun h => Int32.lt_irrefl h
theorem mSt_at (a : Nat) : ∀ (s x : Nat), mSt μ a v s 30 0 x = if a ≤ x ∧ x < a + s then byt v (x - a) else μ 30 0 x
  | 0, x => by rw [if_neg (by omega)]; rfl
  | s + 1, x => by
    show mq_up (mSt μ a v s) 30 0 (a + s) (byt v s) 30 0 x = _
    by_cases h : x = a + s
    · rw [h, up_eq, if_pos (by omega), show a + s - a = s by omega]
    · rw [up_nj h, mSt_at a s x]
      by_cases h2 : a ≤ x ∧ x < a + s
      · rw [if_pos h2, if_pos (by omega)]
      · rw [if_neg h2, if_neg (by omega)]
theorem mSt_o (a : Nat) : ∀ (s k i j : Nat), k ≠ 30 → mSt μ a v s k i j = μ k i j
  | 0, _, _, _, _ => rfl
  | s + 1, k, i, j, h => by
    show mq_up (mSt μ a v s) 30 0 (a + s) (byt v s) k i j = _
    rw [up_nk h]
    exact mSt_o a s k i j h
theorem rel_mSt (h : Rel σ0 μ0 σ μ) (a : Nat) : ∀ s, Rel σ0 μ0 σ (mSt μ a v s)
  | 0 => h
  | s + 1 => (rel_mSt h a s).right rfl rfl _
/-- both write s bytes at n in partition p -/
theorem KI.store (h : KI b σ0 μ0 σ μ) (hp : p < 4) (hn : n < 1024) (hs : s = 1 ∨ s = 2 ∨ s = 4) (hns : n % s = 0) : KI b σ0 μ0 (mq_up σ 15 p (n / 4) (wNew (σ 15 p (n / 4)) v (n % 4) s)) (mSt μ (1024 * p + n) v s) := by
  have his : n % 4 + s ≤ 4 := by rcases hs with rfl | rfl | rfl <;> omega
  obtain ⟨⟨h1, h2, h3⟩, ⟨c1, c2, c3, c4, c5⟩, h5⟩ := h
  refine ⟨⟨rel_mSt (h1.left (by simp [lk]) rfl _) _ _, fun K hK => h2 K hK, og_eq h3 (fun _ => rfl) (fun _ => rfl) (fun _ => rfl) (fun k => mSt_o _ _ _ _ _ (by decide)) (mSt_o _ _ _ _ _ (by decide))⟩, ⟨c1, c2, fun p' j i hp' hj hi => ?_, ?_, ?_⟩, h5⟩
  · rw [mSt_at]
    show _ = byt (mq_up σ 15 p (n / 4) (wNew (σ 15 p (n / 4)) v (n % 4) s) 15 p' j) i
    have hold := c3 p' j i hp' hj hi
    by_cases e : p' = p ∧ j = n / 4
    · obtain ⟨rfl, rfl⟩ := e
      rw [up_eq, wNew_byt (by omega) hs his hi]
      by_cases hc : n % 4 ≤ i ∧ i < n % 4 + s
      · rw [if_pos (by omega), if_pos hc]
        congr 1
        omega
      · rw [if_neg (by omega), if_neg hc]
        exact hold
    · rw [if_neg (by rcases hs with rfl | rfl | rfl <;> omega), up_if, if_neg (fun c => e c.2)]
      exact hold
  · intro ch hch
    obtain ⟨hd, n', g1, g2, g3, g4, g5, g6, g7⟩ := c4 ch hch
    refine ⟨hd, n', g1, g2, g3, g4, fun j hj => ?_, ?_, g7⟩
    · rw [mSt_o _ _ _ _ _ (by decide)]; exact g5 j hj
    · rw [mSt_o _ _ _ _ _ (by decide)]; exact g6
  · obtain ⟨W, T, c, s', ln, g1, g2, g3, g4, g5, g6, g7, g8, g9, g10⟩ := c5
    exact ⟨W, T, c, s', ln, g1, g2, g3, g4, g5, g6, by rw [mSt_o _ _ _ _ _ (by decide)]; exact g7, g8, g9, g10⟩
/-- the bytes at a place, by its word -/
theorem KI.byte (h : KI b σ0 μ0 σ μ) (hp : p < 4) (hn : n < 1024) {k : Nat} (hk : n % 4 + k < 4) : μ 30 0 (1024 * p + n + k) = byt (σ 15 p (n / 4)) (n % 4 + k) := by
  have h1 := h.2.1.2.2.1 p (n / 4) (n % 4 + k) hp (by omega) hk
  rw [show 1024 * p + 4 * (n / 4) + (n % 4 + k) = 1024 * p + n + k by omega] at h1
  exact h1
theorem load4 (h : KI b σ0 μ0 σ μ) (hp : p < 4) (hn : n < 1024) (h4 : n % 4 = 0) : Sp (d + 1) 108 [.inr (some (7, 0)), .inl (nI p), .inl (nI n), .inl 4] μ (.inl (some (.inl (σ 15 p (n / 4))))) μ := by
  have h1 := S108 (d := d) (p := p) (n := n) (μ := μ) (s := 4) (Or.inr (Or.inr rfl)) (by omega)
  rw [if_neg (by decide), if_neg (by decide), h.byte hp hn (k := 3) (by omega), h.byte hp hn (k := 2) (by omega), h.byte hp hn (k := 1) (by omega)] at h1
  have h0 := h.byte hp hn (k := 0) (by omega)
  rw [Nat.add_zero] at h0
  rw [h0, h4, v4_byt] at h1
  exact h1
end MEM
