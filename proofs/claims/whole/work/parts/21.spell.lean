/-! the model spells a word -/
def spelIs (n : Nat) (sp co : Nat → Int32) : Prop := (∀ k : Nat, k < wlen n → sp k = nI (dg n (wlen n - 1 - k))) ∧ ∀ l : Nat, l ≤ 26 → co l = nI (cnt n l)
def cntR (n L : Nat) : Nat → Nat → Nat
  | 0, _ => 0
  | k + 1, l => cntR n L k l + (if dg n (L - 1 - k) = l then 1 else 0)
theorem cntR_eq (n L l : Nat) : ∀ k : Nat, k ≤ L → cntR n L k l + cntU n (L - k) l = cntU n L l
  | 0, _ => by show 0 + cntU n (L - 0) l = _; rw [Nat.zero_add, Nat.sub_zero]
  | k + 1, h => by
    have := cntR_eq n L l k (by omega)
    show cntR n L k l + (if dg n (L - 1 - k) = l then 1 else 0) + cntU n (L - (k + 1)) l = _
    obtain ⟨j, hj⟩ : ∃ j, L - k = j + 1 := ⟨L - k - 1, by omega⟩
    rw [hj] at this
    have e1 : L - 1 - k = j := by omega
    have e2 : L - (k + 1) = j := by omega
    rw [e1, e2]
    have e3 : cntU n (j + 1) l = cntU n j l + (if dg n j = l then 1 else 0) := rfl
    rw [e3] at this
    omega
theorem cntR_len (n l : Nat) : cntR n (wlen n) (wlen n) l = cnt n l := by
  have := cntR_eq n (wlen n) l (wlen n) (Nat.le_refl _)
  rw [Nat.sub_self] at this
  exact this
def clr27 (v : Nat → Int32) (i : Nat) : Nat → Int32 := fun l => if l < i then 0 else v l
theorem p_xclrL {z : Int64} {v : Nat → Int32} {K : (Nat → Int32) → Prop} (h : K (clr27 v 27)) : ∀ m i fuel : Nat, i + m = 27 → m < fuel → P_X9_spell_L10 z K fuel (nI i) (clr27 v i) := by
  intro m
  induction m with
  | zero =>
    intro i fuel hi hf
    obtain ⟨g, rfl⟩ : ∃ g, fuel = g + 1 := ⟨fuel - 1, by omega⟩
    have e : i = 27 := by omega
    subst e
    unfold P_X9_spell_L10
    exact ⟨fun _ => h, fun q => absurd (nI_lt (a := 26) (b := 27) (by omega) (by omega)) q⟩
  | succ m ih =>
    intro i fuel hi hf
    obtain ⟨g, rfl⟩ : ∃ g, fuel = g + 1 := ⟨fuel - 1, by omega⟩
    unfold P_X9_spell_L10
    refine ⟨fun q => absurd q (nI_nlt (a := 26) (by omega) (by omega)), fun _ => ⟨nI_in (by omega) (by omega), ?_⟩⟩
    rw [nI_clamp (by omega), ← nI_succ]
    have e : upd (clr27 v i) i 0 = clr27 v (i + 1) := by
      funext l
      unfold upd clr27
      by_cases hx : l = i
      · rw [if_pos hx, if_pos (by omega)]
      · rw [if_neg hx]
        by_cases h2 : l < i
        · rw [if_pos h2, if_pos (by omega)]
        · rw [if_neg h2, if_neg (by omega)]
    rw [e]
    exact ih (i + 1) g (by omega) (by omega)
theorem p_xspL {n : Nat} (hw : isW n) {K : (Nat → Int32) → (Nat → Int32) → Prop} (h : ∀ sp co, spelIs n sp co → K sp co) : ∀ (m k fuel : Nat) (sp co : Nat → Int32), k + m = wlen n → m < fuel → (∀ j : Nat, j < k → sp j = nI (dg n (wlen n - 1 - j))) → (∀ l : Nat, l ≤ 26 → co l = nI (cntR n (wlen n) k l)) → P_X9_spell_L31 (lN n) (nI (wlen n)) K fuel (nI k) sp co := by
  have hl := isW_len hw
  have hn := hw.2.1
  intro m
  induction m with
  | zero =>
    intro k fuel sp co hk hf h1 h2
    obtain ⟨g, rfl⟩ : ∃ g, fuel = g + 1 := ⟨fuel - 1, by omega⟩
    have e : k = wlen n := by omega
    subst e
    unfold P_X9_spell_L31
    exact ⟨fun _ => h sp co ⟨h1, fun l hl => by rw [h2 l hl, cntR_len]⟩, fun q => absurd (nI_le (Nat.le_refl _) (by omega)) q⟩
  | succ m ih =>
    intro k fuel sp co hk hf h1 h2
    obtain ⟨g, rfl⟩ : ∃ g, fuel = g + 1 := ⟨fuel - 1, by omega⟩
    have e1 : nI (wlen n) - 1 - nI k = nI (wlen n - 1 - k) := by
      have a : nI (wlen n) = nI (wlen n - 1 - k) + nI k + 1 := by
        rw [nI_add, ← nI_succ]
        congr 1; omega
      rw [a, Int32.add_sub_cancel, Int32.add_sub_cancel]
    have hd := hw.2.2 (wlen n - 1 - k) (by omega)
    have e2 : ((lN n >>> ((5 * (nI (wlen n) - 1 - nI k)).toInt64 &&& 63)).toInt32) &&& 31 = nI (dg n (wlen n - 1 - k)) := by
      rw [e1, sshrK (by omega) (by omega), lN_i, mskN]
      rfl
    have ck : (nI k).toNatClampNeg = k := nI_clamp (by omega)
    unfold P_X9_spell_L31
    rw [e2, ck]
    have eu : upd sp k (nI (dg n (wlen n - 1 - k))) k = nI (dg n (wlen n - 1 - k)) := by unfold upd; rw [if_pos rfl]
    rw [eu, dg_cl]
    refine ⟨fun q => absurd q (nI_ge (by omega) (by omega)), fun _ => ⟨nI_in (by omega) (by omega), nI_in (by omega) (by omega), nI_in (by omega) (by omega), nI_in (by omega) (by omega), ?_⟩⟩
    rw [← nI_succ]
    refine ih (k + 1) g _ _ (by omega) (by omega) (fun j hj => ?_) (fun l hl2 => ?_)
    · unfold upd
      by_cases e : j = k
      · rw [if_pos e, e]
      · rw [if_neg e]; exact h1 j (by omega)
    · unfold upd
      show _ = nI (cntR n (wlen n) k l + (if dg n (wlen n - 1 - k) = l then 1 else 0))
      by_cases e : l = dg n (wlen n - 1 - k)
      · rw [if_pos e, if_pos e.symm, ← e, h2 l hl2, nI_succ]
      · rw [if_neg e, if_neg (fun q => e q.symm), Nat.add_zero]
        exact h2 l hl2
theorem p_xspell {n : Nat} (hw : isW n) {v0 v1 v2 v3 v4 v5 : Int32} {v6 v7 : Nat → Int32} {post : Int32 → (Nat → Int32) → (Nat → Int32) → Prop} (h : ∀ sp co, spelIs n sp co → post (nI (wlen n)) sp co) : P_X9_spell post (lN n) v0 v1 v2 v3 v4 v5 v6 v7 := by
  have hl := isW_len hw
  refine p_xlen (Nat.lt_trans hw.2.1 (by decide)) ?_
  have key2 := p_xspL hw (K := fun (w3 : Nat → Int32) (w4 : Nat → Int32) => post (nI (wlen n)) w3 w4) h (wlen n) 0 FU v6 (clr27 v7 27) (Nat.zero_add _) (FU_s _ (by omega)) (fun j hj => absurd hj (Nat.not_lt_zero j)) (fun l hl2 => by
    show (if l < 27 then 0 else v7 l) = nI 0
    rw [if_pos (by omega), nI_0])
  rw [nI_0] at key2
  have key := p_xclrL (z := lN n) (v := v7) (K := fun (w2 : Nat → Int32) => P_X9_spell_L31 (lN n) (nI (wlen n)) (fun (w3 : Nat → Int32) (w4 : Nat → Int32) => post (nI (wlen n)) w3 w4) FU 0 v6 w2) key2 27 0 FU rfl (FU_s _ (by omega))
  have e0 : clr27 v7 0 = v7 := by
    funext l
    unfold clr27
    rw [if_neg (by omega)]
  rw [e0, nI_0] at key
  exact key
/-! which words fit, for the model -/
def fitD (n m : Nat) (r : Nat) : Prop := ∀ i : Nat, i < wlen r → cnt m (dg r i) ≤ cnt n (dg r i)
theorem fitD_s {n m r : Nat} (h0 : r ≠ 0) (hr : r < 2 ^ 63) : fitD n m r ↔ cnt m (r % 32) ≤ cnt n (r % 32) ∧ fitD n m (r / 32) := by
  have hs := wlen_step h0 (Nat.lt_trans hr (by decide))
  unfold fitD
  constructor
  · intro h
    refine ⟨?_, fun i hi => ?_⟩
    · have := h 0 (by omega)
      rwa [dg_0] at this
    · have := h (i + 1) (by omega)
      rwa [dg_s] at this
  · rintro ⟨h1, h2⟩ i hi
    cases i with
    | zero => rw [dg_0]; exact h1
    | succ i => rw [dg_s]; exact h2 i (by omega)
theorem cnt_pos {m l : Nat} (h : 0 < cnt m l) : ∃ i : Nat, i < wlen m ∧ dg m i = l := by
  have key : ∀ k : Nat, 0 < cntU m k l → ∃ i : Nat, i < k ∧ dg m i = l := by
    intro k
    induction k with
    | zero => intro h; exact absurd h (Nat.lt_irrefl 0)
    | succ k ih =>
      intro h
      by_cases e : dg m k = l
      · exact ⟨k, Nat.lt_succ_self k, e⟩
      · have h' : 0 < cntU m k l + (if dg m k = l then 1 else 0) := h
        rw [if_neg e] at h'
        obtain ⟨i, a, b⟩ := ih h'
        exact ⟨i, by omega, b⟩
  exact key _ h
theorem fitD_iff {n m : Nat} (hw : isW m) : fitD n m m ↔ fitsB n m = true := by
  rw [fitsB_iff]
  constructor
  · intro h l a b
    by_cases hc : cnt m l = 0
    · show cnt m l ≤ _
      rw [hc]; exact Nat.zero_le _
    · obtain ⟨i, hi, e⟩ := cnt_pos (Nat.pos_of_ne_zero hc)
      have := h i hi
      rw [e] at this
      exact this
  · intro h i hi
    have hd := hw.2.2 i hi
    exact h _ hd.1 hd.2
theorem p_xfitL {n m : Nat} (hn : n < 32 ^ 12) (hw : isW m) {co : Nat → Int32} (hco : ∀ l : Nat, l ≤ 26 → co l = nI (cnt n l)) {K : Int32 → Prop} : ∀ k r fuel : Nat, r < 2 ^ 63 → wlen r = k → k < fuel → allOk r → (K 0 → P_X9_fits_L5 (lN m) co K fuel 0 (lN r)) ∧ ((fitD n m r → K 1) → (¬ fitD n m r → K 0) → P_X9_fits_L5 (lN m) co K fuel 1 (lN r)) := by
  intro k
  induction k with
  | zero =>
    intro r fuel hr hk hf ha
    obtain ⟨f, rfl⟩ : ∃ f, fuel = f + 1 := ⟨fuel - 1, by omega⟩
    have e := wlen_0iff.mp hk
    subst e
    unfold P_X9_fits_L5
    exact ⟨fun h => ⟨fun _ => h, fun q => absurd (show lN 0 ≤ 0 by decide) q⟩, fun h _ => ⟨fun _ => h (fun i hi => absurd hi (by rw [hk]; omega)), fun q => absurd (show lN 0 ≤ 0 by decide) q⟩⟩
  | succ k ih =>
    intro r fuel hr hk hf ha
    obtain ⟨f, rfl⟩ : ∃ f, fuel = f + 1 := ⟨fuel - 1, by omega⟩
    have e : r ≠ 0 := fun q => by rw [wlen_0iff.mpr q] at hk; omega
    have hs := wlen_step e (Nat.lt_trans hr (by decide))
    have ha2 := (allOk_s e hr).mp ha
    have IH := ih (r / 32) f (by omega) (by omega) (by omega) ha2.2
    have hne : ¬ lN r ≤ 0 := fun q => e ((lN_le0 hr).mp q)
    have hm := hw.2.1
    have c1 := cnt_le hm (r % 32)
    have c2 := cnt_le hn (r % 32)
    unfold P_X9_fits_L5
    rw [sshrN hr, lowN]
    refine ⟨fun h => ⟨fun q => absurd q hne, fun _ y hy => ⟨fun _ y2 hy2 => by rw [hy2]; exact IH.1 h, fun q => absurd rfl q⟩⟩, fun h1 h0 => ⟨fun q => absurd q hne, fun _ y hy => ⟨fun q => absurd q (by decide), fun _ => ?_⟩⟩⟩
    rw [hy]
    have ec : (nI (r % 32)).toNatClampNeg = r % 32 := nI_clamp (by omega)
    refine p_xcin (by omega) (by omega) ⟨nI_in (by omega) (by omega), ?_, ?_⟩
    · rw [ec, hco _ (by omega)]
      intro q y4 h4
      have q' := (nlt (by omega) (by omega)).mp q
      rw [h4]
      exact IH.1 (h0 fun z => by have := ((fitD_s e hr).mp z).1; omega)
    · rw [ec, hco _ (by omega)]
      intro q y5 h5
      have q' : cnt m (r % 32) ≤ cnt n (r % 32) := Nat.le_of_not_lt fun z => q ((nlt (by omega) (by omega)).mpr z)
      rw [h5]
      exact IH.2 (fun z => h1 ((fitD_s e hr).mpr ⟨q', z⟩)) (fun z => h0 fun w => z ((fitD_s e hr).mp w).2)
theorem p_xfits {n m : Nat} (hn : n < 32 ^ 12) (hw : isW m) {co : Nat → Int32} (hco : ∀ l : Nat, l ≤ 26 → co l = nI (cnt n l)) {v0 v1 v2 v3 v4 v5 : Int32} {post : Int32 → Prop} (h1 : fitsB n m = true → post 1) (h0 : fitsB n m = false → post 0) : P_X9_fits post (lN m) v0 v1 v2 v3 v4 v5 co := by
  have hm := hw.2.1
  have hl := isW_len hw
  have key := (p_xfitL hn hw hco (K := fun (x6 : Int32) => narrow .boolean (.int x6) = .int x6 ∧ post x6) (wlen m) m FU (by omega) rfl (FU_s _ (by omega)) hw.2.2).2 (fun z => ⟨rfl, h1 ((fitD_iff hw).mp z)⟩) (fun z => ⟨rfl, h0 (by
    cases hb : fitsB n m with
    | false => rfl
    | true => exact absurd ((fitD_iff hw).mpr hb) z)⟩)
  exact key
