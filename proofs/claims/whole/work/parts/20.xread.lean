/-! the model's reading of words -/
theorem mskL (m : Nat) : lN m &&& 31 = lN (m % 32) := by
  have e : UInt64.ofNat m &&& UInt64.ofNat 31 = UInt64.ofNat (m % 32) := by
    apply UInt64.toNat_inj.mp
    rw [UInt64.toNat_and, UInt64.toNat_ofNat', UInt64.toNat_ofNat_of_lt' (show 31 < 2 ^ 64 by decide), UInt64.toNat_ofNat_of_lt' (show m % 32 < 2 ^ 64 by omega), show (31 : Nat) = 2 ^ 5 - 1 from rfl, Nat.and_two_pow_sub_one_eq_mod]
    omega
  show (UInt64.ofNat m &&& UInt64.ofNat 31).toInt64 = (UInt64.ofNat (m % 32)).toInt64
  rw [e]
theorem amtS : ∀ i : Nat, i < 13 → (((5 * nI i).toInt64 &&& 63).toBitVec.smod 64).toNat = 5 * i := by decide +kernel
theorem sshrK {n i : Nat} (hn : n < 2 ^ 63) (hi : i ≤ 12) : lN n >>> ((5 * nI i).toInt64 &&& 63) = lN (n / 32 ^ i) := by
  apply Int64.toInt_inj.mp
  show ((lN n).toBitVec.sshiftRight (((5 * nI i).toInt64 &&& 63).toBitVec.smod 64).toNat).toInt = _
  rw [amtS i (by omega), BitVec.toInt_sshiftRight]
  show (lN n).toInt >>> (5 * i) = _
  have hd : n / 32 ^ i < 2 ^ 63 := Nat.lt_of_le_of_lt (Nat.div_le_self _ _) hn
  rw [pk_lT hn, pk_lT hd, Int.shiftRight_eq_div_pow, p5]
  exact (Int.natCast_ediv n (32 ^ i)).symm
theorem lowN (n : Nat) : (lN n &&& 31).toInt32 = nI (n % 32) := by rw [mskL, lN_i]
def allOk (n : Nat) : Prop := ∀ i : Nat, i < wlen n → 1 ≤ dg n i ∧ dg n i ≤ 26
theorem allOk_0 : allOk 0 := fun i hi => absurd hi (by rw [show wlen 0 = 0 from rfl]; omega)
theorem allOk_s {n : Nat} (h0 : n ≠ 0) (hn : n < 2 ^ 63) : allOk n ↔ (1 ≤ n % 32 ∧ n % 32 ≤ 26) ∧ allOk (n / 32) := by
  have hs := wlen_step h0 (Nat.lt_trans hn (by decide))
  unfold allOk
  constructor
  · intro h
    refine ⟨?_, fun i hi => ?_⟩
    · have := h 0 (by omega)
      rwa [dg_0] at this
    · have := h (i + 1) (by omega)
      rwa [dg_s] at this
  · rintro ⟨h1, h2⟩ i hi
    cases i with
    | zero => rw [dg_0]; exact h1
    | succ i => rw [dg_s]; exact h2 i (by omega)
theorem p_within {a lo hi : Nat} (ha : a < 2 ^ 31) (hlo : lo < 2 ^ 31) (hhi : hi < 2 ^ 31) {post : Int32 → Prop} (h1 : lo ≤ a ∧ a ≤ hi → post 1) (h0 : ¬ (lo ≤ a ∧ a ≤ hi) → post 0) : P_X9_isWithin post (nI a) (nI lo) (nI hi) := by
  unfold P_X9_isWithin
  refine ⟨fun q => h0 fun z => ?_, fun q => ⟨fun q2 => h0 fun z => ?_, fun q2 => h1 ⟨?_, ?_⟩⟩⟩
  · have := (nlt ha hlo).mp q; omega
  · have := (nlt hhi ha).mp q2; omega
  · exact Nat.le_of_not_lt fun z => q ((nlt ha hlo).mpr z)
  · exact Nat.le_of_not_lt fun z => q2 ((nlt hhi ha).mpr z)
theorem wlen_0iff {n : Nat} : wlen n = 0 ↔ n = 0 := by
  constructor
  · intro h
    have := (wlen_le (n := n) (k := 0) (by omega)).mp (by omega)
    simp at this; exact this
  · intro h; rw [h]; rfl
theorem p_xisL {K : Int32 → Prop} : ∀ m n fuel : Nat, n < 2 ^ 63 → wlen n = m → m < fuel → (K 0 → P_X9_isWord_L23 K fuel 0 (lN n)) ∧ ((allOk n → K 1) → (¬ allOk n → K 0) → P_X9_isWord_L23 K fuel 1 (lN n)) := by
  intro m
  induction m with
  | zero =>
    intro n fuel hn hw hf
    obtain ⟨f, rfl⟩ : ∃ f, fuel = f + 1 := ⟨fuel - 1, by omega⟩
    have e := wlen_0iff.mp hw
    subst e
    unfold P_X9_isWord_L23
    exact ⟨fun h => ⟨fun _ => h, fun q => absurd (show lN 0 ≤ 0 by decide) q⟩, fun h _ => ⟨fun _ => h allOk_0, fun q => absurd (show lN 0 ≤ 0 by decide) q⟩⟩
  | succ m ih =>
    intro n fuel hn hw hf
    obtain ⟨f, rfl⟩ : ∃ f, fuel = f + 1 := ⟨fuel - 1, by omega⟩
    have e : n ≠ 0 := fun q => by rw [wlen_0iff.mpr q] at hw; omega
    have hs := wlen_step e (Nat.lt_trans hn (by decide))
    have IH := ih (n / 32) f (by omega) (by omega) (by omega)
    have hne : ¬ lN n ≤ 0 := fun q => e ((lN_le0 hn).mp q)
    unfold P_X9_isWord_L23
    rw [sshrN hn, lowN]
    refine ⟨fun h => ⟨fun q => absurd q hne, fun _ => ⟨fun _ y hy => by rw [hy]; exact IH.1 h, fun q => absurd rfl q⟩⟩, fun h1 h0 => ⟨fun q => absurd q hne, fun _ => ⟨fun q => absurd q (by decide), fun _ => ?_⟩⟩⟩
    refine p_within (lo := 1) (hi := 26) (by omega) (by omega) (by omega) (fun hb => ⟨fun q => absurd q (by decide), fun _ y hy => ?_⟩) (fun hb => ⟨fun _ y hy => ?_, fun q => absurd rfl q⟩)
    · rw [hy]
      exact IH.2 (fun z => h1 ((allOk_s e hn).mpr ⟨hb, z⟩)) (fun z => h0 fun w => z ((allOk_s e hn).mp w).2)
    · rw [hy]
      exact IH.1 (h0 fun w => hb ((allOk_s e hn).mp w).1)
theorem p_xneg {K : Int32 → Prop} {p : Int64} (hp : p ≤ 0) {b : Int32} (h : K b) (fuel : Nat) (hf : 0 < fuel) : P_X9_isWord_L23 K fuel b p := by
  obtain ⟨f, rfl⟩ : ∃ f, fuel = f + 1 := ⟨fuel - 1, by omega⟩
  unfold P_X9_isWord_L23
  exact ⟨fun _ => h, fun q => absurd hp q⟩
theorem p_xisW {p : Int64} {post : Int32 → Prop} (h1 : isWd p → post 1) (h0 : ¬ isWd p → post 0) : P_X9_isWord post p := by
  unfold P_X9_isWord
  refine ⟨fun c => p_xneg c ⟨rfl, h0 fun q => isWd_pos q c⟩ FU (by decide), fun c => ?_⟩
  obtain ⟨n, hn0, hn, rfl⟩ := i64_pos c
  refine p_xlen hn ⟨fun q => ?_, fun q => ?_⟩
  · have q' := (nlt (a := 12) (by omega) (by have := wlen_le13 hn; omega)).mp q
    refine (p_xisL (wlen n) n FU hn rfl (Nat.lt_of_le_of_lt (wlen_le13 hn) (by decide))).1 ⟨rfl, h0 fun z => ?_⟩
    have := isW_len ((isWd_N hn).mp z)
    omega
  · have q' : wlen n ≤ 12 := Nat.le_of_not_lt fun z => q ((nlt (a := 12) (by omega) (by have := wlen_le13 hn; omega)).mpr z)
    have hn2 := (wlen_le (n := n) (k := 12) (by omega)).mp q'
    refine (p_xisL (wlen n) n FU hn rfl (Nat.lt_of_le_of_lt (wlen_le13 hn) (by decide))).2 (fun z => ⟨rfl, h1 ⟨n, rfl, hn0, hn2, z⟩⟩) (fun z => ⟨rfl, h0 fun w => z ((isWd_N hn).mp w).2.2⟩)
/-! counting letters -/
theorem cntU_front (n l : Nat) : ∀ k : Nat, cntU n (k + 1) l = (if n % 32 = l then 1 else 0) + cntU (n / 32) k l
  | 0 => by
    show cntU n 0 l + (if dg n 0 = l then 1 else 0) = _
    rw [dg_0]
    show 0 + _ = _ + 0
    omega
  | k + 1 => by
    show cntU n (k + 1) l + (if dg n (k + 1) = l then 1 else 0) = _ + (cntU (n / 32) k l + (if dg (n / 32) k = l then 1 else 0))
    rw [cntU_front n l k, dg_s]
    omega
theorem cnt_s {n : Nat} (h0 : n ≠ 0) (hn : n < 2 ^ 63) (l : Nat) : cnt n l = (if n % 32 = l then 1 else 0) + cnt (n / 32) l := by
  unfold cnt
  rw [wlen_step h0 (Nat.lt_trans hn (by decide)), cntU_front]
theorem p_xcinL {l : Nat} (hl : l < 32) {K : Int32 → Prop} : ∀ m n a fuel : Nat, n < 2 ^ 63 → wlen n = m → m < fuel → K (nI (a + cnt n l)) → P_X9_countIn_L5 (nI l) K fuel (nI a) (lN n) := by
  intro m
  induction m with
  | zero =>
    intro n a fuel hn hw hf h
    obtain ⟨f, rfl⟩ : ∃ f, fuel = f + 1 := ⟨fuel - 1, by omega⟩
    have e := wlen_0iff.mp hw
    subst e
    unfold P_X9_countIn_L5
    exact ⟨fun _ => h, fun q => absurd (show lN 0 ≤ 0 by decide) q⟩
  | succ m ih =>
    intro n a fuel hn hw hf h
    obtain ⟨f, rfl⟩ : ∃ f, fuel = f + 1 := ⟨fuel - 1, by omega⟩
    have e : n ≠ 0 := fun q => by rw [wlen_0iff.mpr q] at hw; omega
    have hs := wlen_step e (Nat.lt_trans hn (by decide))
    have hne : ¬ lN n ≤ 0 := fun q => e ((lN_le0 hn).mp q)
    have hc := cnt_s e hn l
    unfold P_X9_countIn_L5
    rw [sshrN hn, mskL, nI_l (by omega)]
    refine ⟨fun q => absurd q hne, fun _ => ⟨fun q y1 h1 y2 h2 => ?_, fun q y1 h1 y2 h2 => ?_⟩⟩
    · have q' := (pk_lEQ (by omega) (by omega)).mp q
      rw [h1, h2, ← nI_succ]
      refine ih (n / 32) (a + 1) f (by omega) (by omega) (by omega) ?_
      rw [if_pos q'] at hc
      rw [show a + 1 + cnt (n / 32) l = a + cnt n l by omega]
      exact h
    · have q' : ¬ n % 32 = l := fun z => q (by rw [z])
      rw [h1, h2, Int32.add_zero]
      refine ih (n / 32) a f (by omega) (by omega) (by omega) ?_
      rw [if_neg q'] at hc
      rw [show a + cnt (n / 32) l = a + cnt n l by omega]
      exact h
theorem p_xcin {n l : Nat} (hn : n < 2 ^ 63) (hl : l < 32) {post : Int32 → Prop} (h : post (nI (cnt n l))) : P_X9_countIn post (lN n) (nI l) := by
  have key := p_xcinL hl (K := fun x5 => post x5) (wlen n) n 0 FU hn rfl (Nat.lt_of_le_of_lt (wlen_le13 hn) (by decide)) (by rw [Nat.zero_add]; exact h)
  rw [nI_0] at key
  exact key
