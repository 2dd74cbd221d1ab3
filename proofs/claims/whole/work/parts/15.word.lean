/-! words as numbers: digits of base 32 -/
def dg (n i : Nat) : Nat := n / 32 ^ i % 32
def wlenF : Nat → Nat → Nat
  | 0, _ => 0
  | f + 1, n => if n = 0 then 0 else wlenF f (n / 32) + 1
def wlen (n : Nat) : Nat := wlenF 64 n
theorem wlenF_le : ∀ (f n k : Nat), k ≤ f → (wlenF f n ≤ k ↔ n < 32 ^ k ∨ (k = f)) := by
  intro f
  induction f with
  | zero => intro n k hk; have : k = 0 := by omega
            subst this; simp [wlenF]
  | succ f ih =>
    intro n k hk
    unfold wlenF
    by_cases h0 : n = 0
    · rw [if_pos h0]; subst h0
      exact ⟨fun _ => Or.inl (Nat.pow_pos (by decide)), fun _ => Nat.zero_le _⟩
    · rw [if_neg h0]
      cases k with
      | zero => constructor
                · intro h; omega
                · intro h; rcases h with h | h
                  · simp at h; omega
                  · omega
      | succ k =>
        have := ih (n / 32) k (by omega)
        rw [Nat.add_le_add_iff_right, this]
        have e : n / 32 < 32 ^ k ↔ n < 32 ^ (k + 1) := by
          rw [Nat.div_lt_iff_lt_mul (by decide), Nat.pow_succ]
        rw [e]
        constructor
        · intro h; rcases h with h | h
          · exact Or.inl h
          · exact Or.inr (by omega)
        · intro h; rcases h with h | h
          · exact Or.inl h
          · exact Or.inr (by omega)
theorem wlen_le {n k : Nat} (hk : k < 64) : wlen n ≤ k ↔ n < 32 ^ k := by
  unfold wlen
  rw [wlenF_le 64 n k (by omega)]
  constructor
  · intro h; rcases h with h | h
    · exact h
    · omega
  · exact Or.inl
theorem lt_wlen {n k : Nat} (hk : k < 64) : k < wlen n ↔ n / 32 ^ k ≠ 0 := by
  rw [← Nat.not_le, wlen_le hk, Nat.not_lt]
  have hp : 0 < 32 ^ k := Nat.pow_pos (by decide)
  constructor
  · intro h e
    have := (Nat.div_eq_zero_iff).mp e
    omega
  · intro h
    exact Nat.le_of_not_lt fun q => h (Nat.div_eq_of_lt q)
theorem wlen_step {n : Nat} (h0 : n ≠ 0) (h : n < 32 ^ 63) : wlen n = wlen (n / 32) + 1 := by
  have key : ∀ k, k < 63 → (wlen n ≤ k + 1 ↔ wlen (n / 32) ≤ k) := fun k hk => by
    rw [wlen_le (by omega), wlen_le (by omega), Nat.div_lt_iff_lt_mul (by decide), Nat.pow_succ]
  have a : wlen n ≤ 63 := (wlen_le (by omega)).mpr h
  have b : 0 < wlen n := (lt_wlen (by omega)).mpr (by simpa using h0)
  have c := (key (wlen n - 1) (by omega)).mp (by omega)
  by_cases d : wlen (n / 32) = 0
  · have := (key 0 (by omega)).mpr (by omega); omega
  · have := (key (wlen (n / 32)) (by omega)).mpr (Nat.le_refl _); omega
theorem dg_lt (n i : Nat) : dg n i < 32 := Nat.mod_lt _ (by decide)
theorem dg_0 (n : Nat) : dg n 0 = n % 32 := by unfold dg; simp
theorem dg_s (n i : Nat) : dg n (i + 1) = dg (n / 32) i := by
  unfold dg
  rw [Nat.pow_succ, Nat.mul_comm, Nat.div_div_eq_div_mul]
/-- what is a word -/
def isW (n : Nat) : Prop := 0 < n ∧ n < 32 ^ 12 ∧ ∀ i : Nat, i < wlen n → 1 ≤ dg n i ∧ dg n i ≤ 26
theorem isW_len {n : Nat} (h : isW n) : wlen n ≤ 12 := (wlen_le (by omega)).mpr h.2.1
theorem p5 (i : Nat) : (2 : Nat) ^ (5 * i) = 32 ^ i := by rw [Nat.pow_mul]
theorem five (i : Nat) : (5 : Int32) * nI i = nI (5 * i) := by
  show Int32.ofNat 5 * Int32.ofNat i = Int32.ofNat (5 * i)
  rw [Int32.ofNat_mul]
theorem ushrN {n k : Nat} (hn : n < 2 ^ 64) (hk : k < 64) : ((lN n).toUInt64 >>> UInt64.ofNat k).toInt64 = lN (n / 2 ^ k) := by
  have e : UInt64.ofNat n >>> UInt64.ofNat k = UInt64.ofNat (n / 2 ^ k) := by
    apply UInt64.toNat_inj.mp
    rw [UInt64.toNat_shiftRight, UInt64.toNat_ofNat_of_lt' hn, UInt64.toNat_ofNat_of_lt' (show k < 2 ^ 64 by omega), UInt64.toNat_ofNat_of_lt' (Nat.lt_of_le_of_lt (Nat.div_le_self _ _) hn), Nat.mod_eq_of_lt hk, Nat.shiftRight_eq_div_pow]
  show (UInt64.ofNat n >>> UInt64.ofNat k).toInt64 = (UInt64.ofNat (n / 2 ^ k)).toInt64
  rw [e]
theorem amt : ∀ i : Nat, i < 13 → ((5 * nI i).toInt64.toUInt64 &&& Int64.toUInt64 63) = UInt64.ofNat (5 * i) := by decide +kernel
theorem sh_w {n i : Nat} (hn : n < 2 ^ 63) (hi : i ≤ 12) : ((lN n).toUInt64 >>> ((5 * nI i).toInt64.toUInt64 &&& Int64.toUInt64 63)).toInt64 = lN (n / 32 ^ i) := by
  rw [amt i (by omega), ushrN (by omega) (by omega), p5]
theorem mskN (m : Nat) : nI m &&& 31 = nI (m % 32) := by
  have e : UInt32.ofNat m &&& UInt32.ofNat 31 = UInt32.ofNat (m % 32) := by
    apply UInt32.toNat_inj.mp
    rw [UInt32.toNat_and, UInt32.toNat_ofNat', UInt32.toNat_ofNat_of_lt' (show 31 < 2 ^ 32 by decide), UInt32.toNat_ofNat_of_lt' (show m % 32 < 2 ^ 32 by omega), show (31 : Nat) = 2 ^ 5 - 1 from rfl, Nat.and_two_pow_sub_one_eq_mod]
    omega
  show (UInt32.ofNat m &&& UInt32.ofNat 31).toInt32 = (UInt32.ofNat (m % 32)).toInt32
  rw [e]
theorem lN_ne0 {n : Nat} (hn : n < 2 ^ 63) : lN n = 0 ↔ n = 0 := pk_lEQ (b := 0) hn (by decide)
theorem p_lenL {n : Nat} (hn : n < 32 ^ 12) {K : Int32 → Prop} (h : K (nI (wlen n))) : ∀ m i fuel : Nat, i + m = wlen n → m < fuel → P_X7_lengthOf_L2 (lN n) K fuel (nI i) := by
  have hl : wlen n ≤ 12 := (wlen_le (by omega)).mpr hn
  intro m
  induction m with
  | zero =>
    intro i fuel hi hf
    obtain ⟨f, rfl⟩ : ∃ f, fuel = f + 1 := ⟨fuel - 1, by omega⟩
    have e : i = wlen n := by omega
    subst e
    unfold P_X7_lengthOf_L2
    refine ⟨fun _ => h, fun c => ⟨fun _ => h, fun c2 => absurd ?_ c2⟩⟩
    rw [sh_w (by omega) hl]
    have := (wlen_le (n := n) (k := wlen n) (by omega)).mp (Nat.le_refl _)
    rw [Nat.div_eq_of_lt this]; rfl
  | succ m ih =>
    intro i fuel hi hf
    obtain ⟨f, rfl⟩ : ∃ f, fuel = f + 1 := ⟨fuel - 1, by omega⟩
    have hil : i < wlen n := by omega
    unfold P_X7_lengthOf_L2
    refine ⟨fun c => absurd c (nI_ge (a := i) (b := 12) (by omega) (by omega)), fun _ => ?_⟩
    rw [sh_w (by omega) (by omega)]
    have hne := (lt_wlen (n := n) (k := i) (by omega)).mp hil
    refine ⟨fun c => absurd ((lN_ne0 (Nat.lt_of_le_of_lt (Nat.div_le_self _ _) (by omega))).mp c) hne, fun _ => ?_⟩
    rw [← nI_succ]
    exact ih (i + 1) f (by omega) (by omega)
theorem p_len {n : Nat} (hn : n < 32 ^ 12) {post : Int32 → Prop} (h : post (nI (wlen n))) : P_X7_lengthOf post (lN n) :=
  p_lenL hn h (wlen n) 0 FU (Nat.zero_add _) (Nat.lt_of_le_of_lt ((wlen_le (by omega)).mpr hn) (by decide))
theorem ltr {n i : Nat} (hn : n < 2 ^ 63) (hi : i ≤ 12) : ((((lN n).toUInt64 >>> ((5 * nI i).toInt64.toUInt64 &&& Int64.toUInt64 63)).toInt64).toInt32) &&& 31 = nI (dg n i) := by
  rw [sh_w hn hi, lN_i, mskN]
  rfl
theorem p_letter {n i : Nat} (hn : n < 32 ^ 12) (hi : i ≤ 12) {post : Int32 → Prop} (h : post (nI (dg n i))) : P_X7_letter post (lN n) (nI i) := by
  unfold P_X7_letter
  rw [ltr (by omega) hi]
  exact h
theorem nlt {a b : Nat} (ha : a < 2 ^ 31) (hb : b < 2 ^ 31) : nI a < nI b ↔ a < b := by rw [Int32.lt_iff_toInt_lt, nI_toInt ha, nI_toInt hb]; omega
theorem nle {a b : Nat} (ha : a < 2 ^ 31) (hb : b < 2 ^ 31) : nI a ≤ nI b ↔ a ≤ b := by rw [Int32.le_iff_toInt_le, nI_toInt ha, nI_toInt hb]; omega
theorem neq {a b : Nat} (ha : a < 2 ^ 31) (hb : b < 2 ^ 31) : nI a = nI b ↔ a = b := by
  constructor
  · intro h
    have := congrArg Int32.toInt h
    rw [nI_toInt ha, nI_toInt hb] at this
    omega
  · intro h; rw [h]
def isWd (p : Int64) : Prop := ∃ n : Nat, p = lN n ∧ isW n
theorem isWd_N {n : Nat} (hn : n < 2 ^ 63) : isWd (lN n) ↔ isW n := by
  constructor
  · rintro ⟨m, e, h⟩
    have h2 := h.2.1
    have := (pk_lEQ hn (b := m) (by omega)).mp e
    rw [this]; exact h
  · exact fun h => ⟨n, rfl, h⟩
theorem i64_pos {p : Int64} (h : ¬ p ≤ 0) : ∃ n : Nat, 0 < n ∧ n < 2 ^ 63 ∧ p = lN n := by
  have h0 : (0 : Int64) < p := by rwa [Int64.not_le] at h
  obtain ⟨n, hn, rfl⟩ := pk_lOf (x := p) (by rw [Int64.not_lt]; exact Int64.le_of_lt h0)
  exact ⟨n, (pk_lLT (a := 0) (by decide) hn).mp h0, hn, rfl⟩
theorem isWd_pos {p : Int64} (h : isWd p) : ¬ p ≤ 0 := by
  obtain ⟨n, rfl, h1, h2, -⟩ := h
  rw [Int64.not_le]
  exact (pk_lLT (a := 0) (by decide) (by omega)).mpr h1
theorem p_isWL {n : Nat} (hn0 : 0 < n) (hn : n < 32 ^ 12) {K48 K56 : Prop} (h0 : ¬ isW n → K48) (h1 : isW n → K56) : ∀ m i fuel : Nat, i + m = wlen n → m < fuel → (∀ j : Nat, j < i → 1 ≤ dg n j ∧ dg n j ≤ 26) → P_X7_isWord_L23 (lN n) (nI (wlen n)) K48 K56 fuel (nI i) := by
  have hl : wlen n ≤ 12 := (wlen_le (by omega)).mpr hn
  intro m
  induction m with
  | zero =>
    intro i fuel hi hf hj
    obtain ⟨f, rfl⟩ : ∃ f, fuel = f + 1 := ⟨fuel - 1, by omega⟩
    have e : i = wlen n := by omega
    subst e
    unfold P_X7_isWord_L23
    exact ⟨fun _ => h1 ⟨hn0, hn, hj⟩, fun c => absurd (nI_le (Nat.le_refl _) (by omega)) c⟩
  | succ m ih =>
    intro i fuel hi hf hj
    obtain ⟨f, rfl⟩ : ∃ f, fuel = f + 1 := ⟨fuel - 1, by omega⟩
    unfold P_X7_isWord_L23
    refine ⟨fun c => absurd c (nI_ge (by omega) (by omega)), fun _ => p_letter hn (by omega) ?_⟩
    have hd := dg_lt n i
    have bad : ¬ (1 ≤ dg n i ∧ dg n i ≤ 26) → K48 := fun hb => h0 fun hw => hb (hw.2.2 i (by omega))
    refine ⟨fun c => bad fun hb => ?_, fun c1 => ⟨fun c2 => ?_, fun c2 => bad fun hb => ?_⟩⟩
    · have := (nlt (b := 1) (by omega) (by omega)).mp c; omega
    · rw [← nI_succ]
      refine ih (i + 1) f (by omega) (by omega) (fun j hj2 => ?_)
      by_cases e : j = i
      · subst e
        have a : ¬ dg n j < 1 := fun q => c1 ((nlt (b := 1) (by omega) (by omega)).mpr q)
        have b : dg n j ≤ 26 := (nle (b := 26) (by omega) (by omega)).mp c2
        omega
      · exact hj j (by omega)
    · exact c2 ((nle (b := 26) (by omega) (by omega)).mpr hb.2)
theorem p_isW {p : Int64} {post : Int32 → Prop} (h1 : isWd p → post 1) (h0 : ¬ isWd p → post 0) : P_X7_isWord post p := by
  unfold P_X7_isWord
  refine ⟨fun c => h0 fun q => isWd_pos q c, fun c => ?_⟩
  obtain ⟨n, hn0, hn, rfl⟩ := i64_pos c
  refine ⟨fun c2 => ?_, fun c2 => h0 fun q => ?_⟩
  · have hn2 : n < 32 ^ 12 := (pk_lLT (b := 1152921504606846976) hn (by decide)).mp c2
    refine p_len hn2 ?_
    exact p_isWL hn0 hn2 (fun q => h0 fun z => q ((isWd_N hn).mp z)) (fun q => h1 ((isWd_N hn).mpr q)) (wlen n) 0 FU (Nat.zero_add _) (Nat.lt_of_le_of_lt ((wlen_le (by omega)).mpr hn2) (by decide)) (fun j hj => absurd hj (Nat.not_lt_zero j))
  · have := ((isWd_N hn).mp q).2.1
    exact c2 ((pk_lLT (b := 1152921504606846976) hn (by decide)).mpr this)
/-! the model's reading -/
theorem sshrN {n : Nat} (hn : n < 2 ^ 63) : lN n >>> ((5 : Int32).toInt64 &&& 63) = lN (n / 32) := by
  apply Int64.toInt_inj.mp
  show ((lN n).toBitVec.sshiftRight (((5 : Int32).toInt64 &&& 63).toBitVec.smod 64).toNat).toInt = _
  have e : (((5 : Int32).toInt64 &&& 63).toBitVec.smod 64).toNat = 5 := by decide +kernel
  rw [e, BitVec.toInt_sshiftRight]
  show (lN n).toInt >>> 5 = _
  rw [pk_lT hn, pk_lT (by omega), Int.shiftRight_eq_div_pow]
  omega
theorem lN_le0 {n : Nat} (hn : n < 2 ^ 63) : lN n ≤ 0 ↔ n = 0 := by
  have := pk_lLE (b := 0) hn (by decide)
  exact this.trans (by omega)
theorem p_xlenL {K : Int32 → Prop} : ∀ m n i fuel : Nat, n < 2 ^ 63 → wlen n = m → m < fuel → K (nI (i + m)) → P_X9_lengthOf_L4 K fuel (nI i) (lN n) := by
  intro m
  induction m with
  | zero =>
    intro n i fuel hn hw hf h
    obtain ⟨f, rfl⟩ : ∃ f, fuel = f + 1 := ⟨fuel - 1, by omega⟩
    have e : n = 0 := by
      have := (wlen_le (n := n) (k := 0) (by omega)).mp (by omega)
      simp at this; exact this
    unfold P_X9_lengthOf_L4
    exact ⟨fun _ => h, fun c => absurd ((lN_le0 hn).mpr e) c⟩
  | succ m ih =>
    intro n i fuel hn hw hf h
    obtain ⟨f, rfl⟩ : ∃ f, fuel = f + 1 := ⟨fuel - 1, by omega⟩
    have e : n ≠ 0 := fun q => by
      have := (wlen_le (n := n) (k := 0) (by omega)).mpr (by rw [q]; decide)
      omega
    unfold P_X9_lengthOf_L4
    refine ⟨fun c => absurd ((lN_le0 hn).mp c) e, fun _ y hy => ?_⟩
    rw [hy, sshrN hn, ← nI_succ]
    have hs := wlen_step e (Nat.lt_trans hn (by decide))
    exact ih (n / 32) (i + 1) f (by omega) (by omega) (by omega) (by rw [show i + 1 + m = i + (m + 1) by omega]; exact h)
theorem wlen_le13 {n : Nat} (hn : n < 2 ^ 63) : wlen n ≤ 13 := (wlen_le (by omega)).mpr (Nat.lt_trans hn (by decide))
theorem p_xlen {n : Nat} (hn : n < 2 ^ 63) {post : Int32 → Prop} (h : post (nI (wlen n))) : P_X9_lengthOf post (lN n) := by
  refine p_xlenL (wlen n) n 0 FU hn rfl (Nat.lt_of_le_of_lt (wlen_le13 hn) (by decide)) ?_
  rw [Nat.zero_add]; exact h
