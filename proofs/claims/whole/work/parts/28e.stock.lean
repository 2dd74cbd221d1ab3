/-! weights, base prices, present prices of both -/
def sumW (n : Nat) : Nat → Nat
  | 0 => 0
  | i + 1 => sumW n i + wN (dg n i)
theorem sumW_front (n : Nat) : ∀ k : Nat, sumW n (k + 1) = wN (n % 32) + sumW (n / 32) k
  | 0 => by
    show sumW n 0 + wN (dg n 0) = _
    rw [dg_0]
    show 0 + _ = _ + 0
    omega
  | k + 1 => by
    show sumW n (k + 1) + wN (dg n (k + 1)) = _ + (sumW (n / 32) k + wN (dg (n / 32) k))
    rw [sumW_front n k, dg_s]
    omega
theorem p_ozL {n : Nat} (hw : isW n) {v : Nat → Int32} (ht : isWt v) {K : Int32 → Prop} (h : K (nI (sumW n (wlen n)))) : ∀ m i fuel : Nat, i + m = wlen n → m < fuel → P_X5_ounces_L11 (lN n) (nI (wlen n)) v K fuel (nI (sumW n i)) (nI i) := by
  have hl := isW_len hw
  intro m
  induction m with
  | zero =>
    intro i fuel hi hf
    obtain ⟨g, rfl⟩ : ∃ g, fuel = g + 1 := ⟨fuel - 1, by omega⟩
    have e : i = wlen n := by omega
    subst e
    unfold P_X5_ounces_L11
    exact ⟨fun _ => h, fun q => absurd (nI_le (Nat.le_refl _) (by omega)) q⟩
  | succ m ih =>
    intro i fuel hi hf
    obtain ⟨g, rfl⟩ : ∃ g, fuel = g + 1 := ⟨fuel - 1, by omega⟩
    have hd := hw.2.2 i (by omega)
    unfold P_X5_ounces_L11
    refine ⟨fun q => absurd q (nI_ge (by omega) (by omega)), fun _ => p_letter hw.2.1 (by omega) ⟨dg_in n i, fun y hy => ?_⟩⟩
    rw [dg_cl, ht _ hd.1 hd.2, nI_add] at hy
    rw [hy, ← nI_succ]
    exact ih (i + 1) g (by omega) (by omega)
theorem p_ounces {n : Nat} (hw : isW n) {v : Nat → Int32} (ht : isWt v) {post : Int32 → Prop} (h : post (nI (sumW n (wlen n)))) : P_X5_ounces post (lN n) v := by
  refine p_len hw.2.1 ?_
  have key := p_ozL hw ht (K := fun (x4 : Int32) => post x4) h (wlen n) 0 FU (Nat.zero_add _) (len_FU hw.2.1)
  have e : nI (sumW n 0) = 0 := nI_0
  rw [e, nI_0] at key
  exact key
theorem p_xozL {K : Int32 → Prop} : ∀ m n a fuel : Nat, n < 2 ^ 63 → wlen n = m → m < fuel → allOk n → K (nI (a + sumW n (wlen n))) → P_X9_weightOf_L18 K fuel (nI a) (lN n) := by
  intro m
  induction m with
  | zero =>
    intro n a fuel hn hw hf ha h
    obtain ⟨g, rfl⟩ : ∃ g, fuel = g + 1 := ⟨fuel - 1, by omega⟩
    have e := wlen_0iff.mp hw
    subst e
    unfold P_X9_weightOf_L18
    exact ⟨fun _ => h, fun q => absurd (show lN 0 ≤ 0 by decide) q⟩
  | succ m ih =>
    intro n a fuel hn hw hf ha h
    obtain ⟨g, rfl⟩ : ∃ g, fuel = g + 1 := ⟨fuel - 1, by omega⟩
    have e : n ≠ 0 := fun q => by rw [wlen_0iff.mpr q] at hw; omega
    have hs := wlen_step e (Nat.lt_trans hn (by decide))
    have ha2 := (allOk_s e hn).mp ha
    have hne : ¬ lN n ≤ 0 := fun q => e ((lN_le0 hn).mp q)
    unfold P_X9_weightOf_L18
    rw [sshrN hn, lowN]
    refine ⟨fun q => absurd q hne, fun _ => p_xweight (by omega) (fun y hy y6 hy6 => ?_)⟩
    rw [hy, hy6, nI_add]
    refine ih (n / 32) (a + wN (n % 32)) g (by omega) (by omega) (by omega) ha2.2 ?_
    rw [hs, sumW_front] at h
    rw [show a + wN (n % 32) + sumW (n / 32) (wlen (n / 32)) = a + (wN (n % 32) + sumW (n / 32) (wlen (n / 32))) by omega]
    exact h
theorem p_cwei {p : Int64} {v : Nat → Int32} (ht : isWt v) {post : Int32 → Prop} {postX : String → Prop} (h1 : ∀ n : Nat, p = lN n → isW n → post (nI (sumW n (wlen n)))) (hi : ¬ isWd p → postX sIAE) : P_X8_weightOf post postX p v := by
  refine p_reqWord (fun hw => ?_) hi
  obtain ⟨n, rfl, hw⟩ := hw
  exact p_ounces hw ht (h1 n rfl hw)
theorem p_xwei {p : Int64} {v0 v1 v2 v3 v4 v5 : Int32} {post : Int32 → Int32 → Prop} (h1 : ∀ n : Nat, p = lN n → isW n → post (nI (sumW n (wlen n))) 0) (hi : ¬ isWd p → post 0 1) : P_X9_weightOf post p v0 v1 v2 v3 v4 v5 := by
  refine p_xisW (fun hw => ?_) (fun hw => p_good0 ⟨fun _ => hi hw, fun q => absurd rfl q⟩)
  obtain ⟨n, rfl, hw⟩ := hw
  have hl := isW_len hw
  have hn63 := hw.2.1
  refine p_good1 ⟨fun q => absurd q (by decide), fun _ => ?_⟩
  have key := p_xozL (K := fun (x7 : Int32) => post x7 0) (wlen n) n 0 FU (by omega) rfl (FU_s _ (by omega)) hw.2.2 (by rw [Nat.zero_add]; exact h1 n rfl hw)
  rw [nI_0] at key
  exact key
theorem p_cstock {p : Int32} {v : Nat → Int32} {post : Int32 → Prop} {postX : String → Prop} (h1 : ∀ l : Nat, 1 ≤ l → l ≤ 26 → p = nI l → post (v l)) (hi : ¬ inR p 1 26 → postX sIAE) : P_X8_stockOf post postX p v := by
  refine p_reqLetter (fun hr => ?_) hi
  obtain ⟨l, a, b, rfl⟩ := hr
  exact p_count (by omega) (h1 l a b rfl)
theorem p_cbase {p : Int32} {v : Nat → Int32} {post : Int32 → Prop} {postX : String → Prop} (h1 : ∀ l : Nat, 1 ≤ l → l ≤ 26 → p = nI l → post (v l)) (hi : ¬ inR p 1 26 → postX sIAE) : P_X8_basePriceOf post postX p v := by
  refine p_reqLetter (fun hr => ?_) hi
  obtain ⟨l, a, b, rfl⟩ := hr
  unfold P_X5_basePrice
  rw [lmask (show l < 32 by omega), nI_clamp (by omega)]
  exact ⟨nI_in (by omega) (by omega), h1 l a b rfl⟩
theorem p_cset {p pe : Int32} {v : Nat → Int32} {post : Int32 → (Nat → Int32) → Prop} {postX : String → (Nat → Int32) → Prop} (h1 : ∀ l c : Nat, 1 ≤ l → l ≤ 26 → p = nI l → 1 ≤ c → c ≤ 999 → pe = nI c → post (v l) (upd v l (nI c))) (hi : ¬ (inR p 1 26 ∧ inR pe 1 999) → postX sIAE v) : P_X8_setBasePrice post postX p pe v := by
  refine p_reqLetter (fun hr => p_range (lo := 1) (hi := 999) (by omega) (by omega) (fun hr2 => ?_) (fun h => hi fun z => h z.2)) (fun h => hi fun z => h z.1)
  obtain ⟨l, a, b, rfl⟩ := hr
  obtain ⟨c, a2, b2, rfl⟩ := hr2
  unfold P_X5_changeBasePrice P_X5_basePrice
  rw [lmask (show l < 32 by omega), nI_clamp (by omega)]
  exact ⟨nI_in (by omega) (by omega), nI_in (by omega) (by omega), h1 l c a b rfl a2 b2 rfl⟩
theorem p_xset {p pe : Int32} {v0 v1 v2 v3 v4 v5 : Int32} {v6 : Nat → Int32} {post : Int32 → Int32 → (Nat → Int32) → Prop} (h1 : ∀ l c : Nat, 1 ≤ l → l ≤ 26 → p = nI l → 1 ≤ c → c ≤ 999 → pe = nI c → post (v6 l) 0 (upd v6 l (nI c))) (hi : ¬ (inR p 1 26 ∧ inR pe 1 999) → post 0 1 v6) : P_X9_setBasePrice post p pe v0 v1 v2 v3 v4 v5 v6 := by
  refine p_xwith (lo := 1) (hi := 26) (by omega) (by omega) (fun hr => ⟨fun q => absurd q (by decide), fun _ => p_xwith (lo := 1) (hi := 999) (by omega) (by omega) (fun hr2 => ⟨fun q => absurd q (by decide), fun _ => ?_⟩) (fun h => ⟨fun _ => p_good0 ⟨fun _ => hi fun z => h z.2, fun q => absurd rfl q⟩, fun q => absurd rfl q⟩)⟩) (fun h => ⟨fun _ => p_good0 ⟨fun _ => hi fun z => h z.1, fun q => absurd rfl q⟩, fun q => absurd rfl q⟩)
  obtain ⟨l, a, b, rfl⟩ := hr
  obtain ⟨c, a2, b2, rfl⟩ := hr2
  refine p_good1 ⟨fun q => absurd q (by decide), fun _ => ?_⟩
  have cl : (nI l).toNatClampNeg = l := nI_clamp (by omega)
  rw [cl]
  refine ⟨nI_in (by omega) (by omega), fun y hy => ⟨nI_in (by omega) (by omega), ?_⟩⟩
  rw [hy]
  exact h1 l c a b rfl a2 b2 rfl
theorem p_cpres {p : Int32} {v v1 : Nat → Int32} {u b : Nat → Nat} (hu : isU v u) (hb : isB v1 b) {post : Int32 → Prop} {postX : String → Prop} (h1 : ∀ l : Nat, 1 ≤ l → l ≤ 26 → p = nI l → post (nI (prN (b l) (u l)))) (hi : ¬ inR p 1 26 → postX sIAE) : P_X8_presentPriceOf post postX p v v1 := by
  refine p_reqLetter (fun hr => ?_) hi
  obtain ⟨l, a, c, rfl⟩ := hr
  exact p_price (by omega) (hu l a c).1 (hu l a c).2 (hb l a c).1 (hb l a c).2.2 (h1 l a c rfl)
theorem p_xpres {p : Int32} {v6 v7 : Nat → Int32} {u b : Nat → Nat} (hu : isU v6 u) (hb : isB v7 b) {v0 v1 v2 v3 v4 v5 : Int32} {post : Int32 → Int32 → Prop} (h1 : ∀ l : Nat, 1 ≤ l → l ≤ 26 → p = nI l → post (nI (prN (b l) (u l))) 0) (hi : ¬ inR p 1 26 → post 0 1) : P_X9_presentPriceOf post p v0 v1 v2 v3 v4 v5 v6 v7 := by
  refine p_xwith (lo := 1) (hi := 26) (by omega) (by omega) (fun hr => ?_) (fun h => p_good0 ⟨fun _ => hi h, fun q => absurd rfl q⟩)
  obtain ⟨l, a, c, rfl⟩ := hr
  refine p_good1 ⟨fun q => absurd q (by decide), fun _ => ⟨nI_in (by omega) (by omega), ?_⟩⟩
  rw [nI_clamp (show l < 2 ^ 31 by omega), (hu l a c).1]
  exact p_xprice (by omega) (hu l a c).2 (hb l a c).1 (hb l a c).2.2 (h1 l a c rfl)
