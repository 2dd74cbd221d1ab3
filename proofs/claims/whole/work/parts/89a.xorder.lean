/-! cutting to order, by the model -/
theorem p_xwin {n : Nat} (hn : n ≤ 10240) {p : Int32} {post : Int32 → Prop} (h1 : ∀ j : Nat, j < n → p = nI j → post 1) (h0 : (∀ j : Nat, j < n → p ≠ nI j) → post 0) : P_X9_isWithin post p 0 (nI n - 1) := by
  unfold P_X9_isWithin
  rcases pk_ix p (n := n) (by omega) with q | q | ⟨j, hj, rfl⟩
  · exact ⟨fun _ => h0 fun j hj e => nI_pos (n := j) (by omega) (by rw [← e]; exact q), fun c => absurd q c⟩
  · have hno : ∀ j : Nat, j < n → p ≠ nI j := fun j hj e => nI_ge hj (by omega) (by rw [← e]; exact q)
    refine ⟨fun _ => h0 hno, fun c => ⟨fun _ => h0 hno, fun c2 => absurd ?_ c2⟩⟩
    have q' := Int32.le_iff_toInt_le.mp q
    rw [nI_toInt (by omega)] at q'
    rw [Int32.lt_iff_toInt_lt]
    by_cases e : n = 0
    · rw [e, show nI 0 - 1 = -1 by decide, show (-1 : Int32).toInt = -1 by decide]
      omega
    · obtain ⟨k, hk⟩ : ∃ k, n = k + 1 := ⟨n - 1, by omega⟩
      rw [hk, nI_pred, nI_toInt (by omega)]
      omega
  · obtain ⟨k, hk⟩ : ∃ k, n = k + 1 := ⟨n - 1, by omega⟩
    refine ⟨fun c => absurd c (nI_pos (by omega)), fun _ => ⟨fun c => absurd c ?_, fun _ => h1 j hj rfl⟩⟩
    rw [hk, nI_pred]
    exact nI_nlt (by omega) (by omega)
theorem p_xisO {p : Int64} {z v0 v1 v2 v3 v4 v5 : Int32} {post : Int32 → Int32 → Prop} (h1 : ∀ n k : Nat, p = lN n → isW n → z = nI k → 1 ≤ k → k ≤ 3 → post 1 0) (hi : ¬ (isWd p ∧ inR z 1 3) → post 0 1) : P_X9_isOrder post p z v0 v1 v2 v3 v4 v5 := by
  refine p_xisW (fun hw => ⟨fun q => absurd q (by decide), fun _ => p_xwith (lo := 1) (hi := 3) (by omega) (by omega) (fun hz => ⟨fun q => absurd q (by decide), fun _ => ?_⟩) (fun h => ⟨fun _ => p_good0 ⟨rfl, hi fun q => h q.2⟩, fun q => absurd rfl q⟩)⟩) (fun h => ⟨fun _ => p_good0 ⟨rfl, hi fun q => h q.1⟩, fun q => absurd rfl q⟩)
  obtain ⟨n, rfl, hw⟩ := hw
  obtain ⟨k, a, b, rfl⟩ := hz
  exact p_good1 ⟨rfl, h1 n k rfl hw rfl a b⟩
section XO
variable {v1 : Int32} {v6 : Nat → Int64} {S M : List Nat}
theorem p_xpl (hr : rowIs v1 v6 M) (hd : dRel S M) {p : Int64} {z v0 v2 v3 v4 v5 : Int32} {v7 v8 v9 v10 v11 : Nat → Int32} {post : Int32 → Int32 → Int32 → Int32 → (Nat → Int32) → (Nat → Int32) → (Nat → Int32) → (Nat → Int32) → (Nat → Int32) → Prop}
    (h1 : ∀ n k : Nat, p = lN n → isW n → z = nI k → 1 ≤ k → k ≤ 3 → ∀ a b sp co w o pl, post (nI (plP S n k).length) 0 a b sp co w o pl) (hi : ¬ (isWd p ∧ inR z 1 3) → post 0 1 v4 v5 v7 v8 v9 v10 v11) : P_X9_planLength post p z v0 v1 v2 v3 v4 v5 v6 v7 v8 v9 v10 v11 := by
  refine p_xisO (fun n k e1 e2 e3 e4 e5 => ⟨fun q => absurd q (by decide), fun _ => ?_⟩) (fun h => ⟨fun _ => hi h, fun q => absurd rfl q⟩)
  have k1 := h1 n k e1 e2 e3 e4 e5
  subst e1 e3
  exact p_xplan hr hd e2 e4 e5 (fun sp co w o pl _ _ => k1 _ _ _ _ _ _ _)
theorem p_xpw (hr : rowIs v1 v6 M) (hd : dRel S M) {p : Int64} {z i v0 v2 v3 v4 v5 : Int32} {v7 v8 v9 v10 v11 : Nat → Int32} {post : Int64 → Int32 → Int32 → Int32 → (Nat → Int32) → (Nat → Int32) → (Nat → Int32) → (Nat → Int32) → (Nat → Int32) → Prop}
    (h1 : ∀ n k j w : Nat, p = lN n → isW n → z = nI k → 1 ≤ k → k ≤ 3 → i = nI j → (plP S n k)[j]? = some w → ∀ a b sp co iw o pl, post (lN w) 0 a b sp co iw o pl) (h2 : ∀ n k : Nat, p = lN n → isW n → z = nI k → 1 ≤ k → k ≤ 3 → (∀ j : Nat, j < (plP S n k).length → i ≠ nI j) → ∀ a b sp co iw o pl, post (0 : Int32).toInt64 2 a b sp co iw o pl) (hi : ¬ (isWd p ∧ inR z 1 3) → post 0 1 v4 v5 v7 v8 v9 v10 v11) : P_X9_planWord post p z i v0 v1 v2 v3 v4 v5 v6 v7 v8 v9 v10 v11 := by
  refine p_xisO (fun n k e1 e2 e3 e4 e5 => ⟨fun q => absurd q (by decide), fun _ => ?_⟩) (fun h => ⟨fun _ => hi h, fun q => absurd rfl q⟩)
  have ok := plP_ok S n k
  have hpl := ok.2.2.1
  have k1 := fun j w => h1 n k j w e1 e2 e3 e4 e5
  have k2 := h2 n k e1 e2 e3 e4 e5
  subst e1 e3
  refine p_xplan hr hd e2 e4 e5 (fun sp co w o pl _ hpa => ?_)
  refine p_xwin (n := (plP S n k).length) (by omega) (fun j hj e => ⟨fun q => absurd q (by decide), fun _ => ?_⟩) (fun hno => ⟨fun _ => k2 hno _ _ _ _ _ _ _, fun q => absurd rfl q⟩)
  have hw := List.getElem?_eq_getElem hj
  obtain ⟨m, em, mm⟩ := hpa j _ hw
  have hm := (List.getElem?_eq_some_iff.mp mm).1
  have h60 := hr.2.1
  have key := k1 j _ e hw
  subst e
  rw [nI_clamp (show j < 2 ^ 31 by omega), em, nI_clamp (show m < 2 ^ 31 by omega), hr.2.2 m _ mm]
  exact ⟨nI_in (by omega) (by omega), nI_in (by omega) (by omega), key _ _ _ _ _ _ _⟩
theorem p_xlo (hr : rowIs v1 v6 M) (hd : dRel S M) {p : Int64} {z v0 v2 v3 v4 v5 : Int32} {v7 v8 v9 v10 v11 : Nat → Int32} {post : Int32 → Int32 → Int32 → Int32 → (Nat → Int32) → (Nat → Int32) → (Nat → Int32) → (Nat → Int32) → (Nat → Int32) → Prop}
    (h1 : ∀ n k : Nat, p = lN n → isW n → z = nI k → 1 ≤ k → k ≤ 3 → ∀ a b sp co w o pl, post (nI (wlen n - lenS (plP S n k))) 0 a b sp co w o pl) (hi : ¬ (isWd p ∧ inR z 1 3) → post 0 1 v4 v5 v7 v8 v9 v10 v11) : P_X9_leftoverCount post p z v0 v1 v2 v3 v4 v5 v6 v7 v8 v9 v10 v11 := by
  refine p_xisO (fun n k e1 e2 e3 e4 e5 => ⟨fun q => absurd q (by decide), fun _ => ?_⟩) (fun h => ⟨fun _ => hi h, fun q => absurd rfl q⟩)
  have ok := plP_ok S n k
  have k1 := h1 n k e1 e2 e3 e4 e5
  subst e1 e3
  refine p_xplan hr hd e2 e4 e5 (fun sp co w o pl _ _ => ?_)
  rw [ok.1]
  exact k1 _ _ _ _ _ _ _
/-- pieces left over of a letter -/
theorem p_xlefL (hr : rowIs v1 v6 M) (hM : ∀ m ∈ M, isW m) {n : Nat} (hn : n < 32 ^ 12) {P : List Nat} (hP3 : P.length ≤ 3) (hPW : ∀ w ∈ P, isW w) (hfit : fitC n P = true) {pl : Nat → Int32} (hpl : plaF M P pl) {l : Nat} (hl : l ≤ 26) {K : Int32 → Prop} (h : K (nI (lefU n P l))) :
    ∀ (T : List Nat) (j fuel : Nat), P.drop j = T → j ≤ P.length → T.length < fuel → P_X9_leftOf_L9 (nI l) (nI P.length) v6 pl K fuel (nI (cnt n l - cntS (P.take j) l)) (nI j) := by
  have h60 := hr.2.1
  intro T
  induction T with
  | nil =>
    intro j fuel hd hj hf
    obtain ⟨g, rfl⟩ : ∃ g, fuel = g + 1 := ⟨fuel - 1, by simp at hf; omega⟩
    unfold P_X9_leftOf_L9
    rw [List.take_of_length_le (drop_nil hd)]
    exact ⟨fun _ => h, fun q => absurd (nI_le (drop_nil hd) (by omega)) q⟩
  | cons x T ih =>
    intro j fuel hd hj hf
    obtain ⟨g, rfl⟩ : ∃ g, fuel = g + 1 := ⟨fuel - 1, by simp at hf; omega⟩
    obtain ⟨hai, hd2⟩ := drop_at hd
    have hil := (List.getElem?_eq_some_iff.mp hai).1
    have hwx := hPW x (List.mem_of_getElem? hai)
    have hf2 : T.length < g := by simp at hf; omega
    obtain ⟨m, em, mm⟩ := hpl j x hai
    have hm := (List.getElem?_eq_some_iff.mp mm).1
    have et : P.take (j + 1) = P.take j ++ [x] := by rw [List.take_add_one, hai]; rfl
    have es : P.take j ++ [x] ++ T = P := by rw [← et, ← hd2]; exact List.take_append_drop _ _
    have hle := cntS_fit hPW hfit l
    have e1 : cntS P l = cntS (P.take j) l + cnt x l + cntS T l := by
      rw [← es, cntS_app, cntS_app]
      rw [es]; rfl
    have e2 : cntS (P.take (j + 1)) l = cntS (P.take j) l + cnt x l := by rw [et, cntS_app]; rfl
    unfold P_X9_leftOf_L9
    rw [nI_clamp (show j < 2 ^ 31 by omega), em, nI_clamp (show m < 2 ^ 31 by omega), hr.2.2 m x mm, ← nI_succ]
    refine ⟨fun q => absurd q (nI_ge hil (by omega)), fun _ => ⟨nI_in (by omega) (by omega), nI_in (by omega) (by omega), p_xcin (Nat.lt_trans hwx.2.1 (by decide)) (by omega) (fun y hy => ?_)⟩⟩
    rw [nI_sub (by omega), show cnt n l - cntS (P.take j) l - cnt x l = cnt n l - cntS (P.take (j + 1)) l by omega] at hy
    rw [hy]
    exact ih (j + 1) g hd2 (by omega) hf2
theorem p_xleft (hr : rowIs v1 v6 M) (hM : ∀ m ∈ M, isW m) {n : Nat} (hn : n < 32 ^ 12) {P : List Nat} (hP3 : P.length ≤ 3) (hPW : ∀ w ∈ P, isW w) (hfit : fitC n P = true) {pl co : Nat → Int32} (hpl : plaF M P pl) (hco : ∀ l : Nat, l ≤ 26 → co l = nI (cnt n l)) {l : Nat} (hl : l ≤ 26) {v0 v2 v3 v4 : Int32} {post : Int32 → Prop} (h : post (nI (lefU n P l))) : P_X9_leftOf post (nI l) v0 v1 v2 v3 v4 (nI P.length) v6 co pl := by
  refine ⟨nI_in (by omega) (by omega), fun y hy => ?_⟩
  rw [nI_clamp (by omega), hco l hl] at hy
  rw [hy]
  have key := p_xlefL hr hM hn hP3 hPW hfit hpl hl (K := fun (x4 : Int32) => post x4) h P 0 FU rfl (Nat.zero_le _) (FU_s _ (by omega))
  rw [nI_0] at key
  exact key
theorem p_xctA (hr : rowIs v1 v6 M) (hM : ∀ m ∈ M, isW m) {n : Nat} (hn : n < 32 ^ 12) {P : List Nat} (hP3 : P.length ≤ 3) (hPW : ∀ w ∈ P, isW w) (hfit : fitC n P = true) {pl co v7 : Nat → Int32} (hpl : plaF M P pl) (hco : ∀ l : Nat, l ≤ 26 → co l = nI (cnt n l)) {u : Nat → Nat} (hu : isU v7 u) {z4 v0 v2 v3 v4 : Int32} {K49 K61 : Prop} (h1 : roomU u (lefU n P) → K61) (h0 : ¬ roomU u (lefU n P) → K49) :
    ∀ m k fuel : Nat, k + m = 26 → m < fuel → (∀ l : Nat, 1 ≤ l → l ≤ k → u l + lefU n P l ≤ 999) → P_X9_cutToOrder_L22 z4 v0 v1 v2 v3 v4 (nI P.length) v6 v7 co pl K49 K61 fuel (nI (k + 1)) := by
  intro m
  induction m with
  | zero =>
    intro k fuel hk hf hj
    obtain ⟨g, rfl⟩ : ∃ g, fuel = g + 1 := ⟨fuel - 1, by omega⟩
    have e : k = 26 := by omega
    subst e
    unfold P_X9_cutToOrder_L22
    exact ⟨fun _ => h1 hj, fun q => absurd (nI_lt (a := 26) (b := 27) (by omega) (by omega)) q⟩
  | succ m ih =>
    intro k fuel hk hf hj
    obtain ⟨g, rfl⟩ : ∃ g, fuel = g + 1 := ⟨fuel - 1, by omega⟩
    have ⟨a1, a2⟩ := hu (k + 1) (by omega) (by omega)
    have hcl := cnt_le hn (k + 1)
    have hll : lefU n P (k + 1) ≤ 12 := by show cnt n (k + 1) - cntS P (k + 1) ≤ 12; omega
    unfold P_X9_cutToOrder_L22
    rw [← nI_succ]
    refine ⟨fun q => absurd q (nI_nlt (a := 26) (by omega) (by omega)), fun _ => ⟨nI_in (by omega) (by omega), p_xleft hr hM hn hP3 hPW hfit hpl hco (by omega) ?_⟩⟩
    rw [nI_clamp (show k + 1 < 2 ^ 31 by omega), a1, nI_add]
    refine ⟨fun q => ?_, fun q => h0 fun z => q ((nle (b := 999) (by omega) (by omega)).mpr (z (k + 1) (by omega) (by omega)))⟩
    have q' := (nle (b := 999) (by omega) (by omega)).mp q
    refine ih (k + 1) g (by omega) (by omega) (fun l a d => ?_)
    by_cases e : l = k + 1
    · rw [e]; exact q'
    · exact hj l a (by omega)
theorem p_xctB (hr : rowIs v1 v6 M) (hM : ∀ m ∈ M, isW m) {n : Nat} (hn : n < 32 ^ 12) {P : List Nat} (hP3 : P.length ≤ 3) (hPW : ∀ w ∈ P, isW w) (hfit : fitC n P = true) {pl co f7 f8 f9 : Nat → Int32} (hpl : plaF M P pl) (hco : ∀ l : Nat, l ≤ 26 → co l = nI (cnt n l)) {z4 v0 v2 v3 v4 : Int32} {K : (Nat → Int32) → (Nat → Int32) → (Nat → Int32) → Prop} (h : K (padF f7 (fun l => nI (lefU n P l)) 26) (padF f8 co 26) (padF f9 (fun l => co l - nI (lefU n P l)) 26)) :
    ∀ m k fuel : Nat, k + m = 26 → m < fuel → P_X9_cutToOrder_L64 z4 v0 v1 v2 v3 v4 (nI P.length) v6 co pl K fuel (nI (k + 1)) (padF f7 (fun l => nI (lefU n P l)) k) (padF f8 co k) (padF f9 (fun l => co l - nI (lefU n P l)) k) := by
  intro m
  induction m with
  | zero =>
    intro k fuel hk hf
    obtain ⟨g, rfl⟩ : ∃ g, fuel = g + 1 := ⟨fuel - 1, by omega⟩
    have e : k = 26 := by omega
    subst e
    unfold P_X9_cutToOrder_L64
    exact ⟨fun _ => h, fun q => absurd (nI_lt (a := 26) (b := 27) (by omega) (by omega)) q⟩
  | succ m ih =>
    intro k fuel hk hf
    obtain ⟨g, rfl⟩ : ∃ g, fuel = g + 1 := ⟨fuel - 1, by omega⟩
    have hin : vp_in (nI (k + 1)) 27 := nI_in (by omega) (by omega)
    have key := ih (k + 1) g (by omega) (by omega)
    rw [← padF_s, ← padF_s, ← padF_s] at key
    unfold P_X9_cutToOrder_L64
    rw [← nI_succ]
    refine ⟨fun q => absurd q (nI_nlt (a := 26) (by omega) (by omega)), fun _ => ⟨hin, p_xleft hr hM hn hP3 hPW hfit hpl hco (by omega) ⟨hin, hin, hin, p_xleft hr hM hn hP3 hPW hfit hpl hco (by omega) ⟨hin, hin, hin, hin, ?_⟩⟩⟩⟩
    rw [nI_clamp (show k + 1 < 2 ^ 31 by omega)]
    exact key
theorem p_xctC (hr : rowIs v1 v6 M) {P : List Nat} (hP3 : P.length ≤ 3) (hPW : ∀ w ∈ P, isW w) {pl : Nat → Int32} (hpl : plaF M P pl) {z4 v0 v4 : Int32} {K : Nat → Nat → Int32 → Int32 → Nat → Nat → (Nat → Int64) → Nat → Nat → (Nat → Int32) → Nat → Nat → (Nat → Int32) → Prop} :
    ∀ (T : List Nat) (j fuel : Nat) (R : List (Nat × Nat × Nat)) (N rc rs : Nat) (v2 v3 : Int32) (v10 : Nat) (v12 : Nat → Int64) (v13 : Nat) (v15 : Nat → Int32) (v16 : Nat) (v18 : Nat → Int32), P.drop j = T → j ≤ P.length → T.length < fuel → recOK R → capX R.length N → recX R v2 N v12 v15 v18 → R.length + T.length ≤ 10240 → 3 * (cutL T).length ≤ rc → dSum R.length N (cutL T).length ≤ rs →
    (∀ (rc rs a b' c : Nat) w p' t, recX (R ++ rcsL (cutL T)) (nI (R ++ rcsL (cutL T)).length) (dFin R.length N (cutL T).length) w p' t → recOK (R ++ rcsL (cutL T)) → capX (R ++ rcsL (cutL T)).length (dFin R.length N (cutL T).length) → K rc rs (nI (R ++ rcsL (cutL T)).length) (balI v3 (cutL T)) a (dFin R.length N (cutL T).length) w b' (dFin R.length N (cutL T).length) p' c (dFin R.length N (cutL T).length) t) →
    P_X9_cutToOrder_L137 z4 v0 v1 v4 (nI P.length) v6 pl K fuel rc rs (nI j) v2 v3 v10 N v12 v13 N v15 v16 N v18 := by
  have h60 := hr.2.1
  intro T
  induction T with
  | nil =>
    intro j fuel R N rc rs v2 v3 v10 v12 v13 v15 v16 v18 hd hj hf hok hN hX hR hrc hrs h
    obtain ⟨g, rfl⟩ : ∃ g, fuel = g + 1 := ⟨fuel - 1, by simp at hf; omega⟩
    have e3 := hX.1
    subst e3
    have en : R ++ rcsL (cutL []) = R := List.append_nil R
    have key := h rc rs v10 v13 v16 v12 v15 v18
    rw [en] at key
    unfold P_X9_cutToOrder_L137
    exact ⟨fun _ => key hX hok hN, fun q => absurd (nI_le (drop_nil hd) (by omega)) q⟩
  | cons x T ih =>
    intro j fuel R N rc rs v2 v3 v10 v12 v13 v15 v16 v18 hd hj hf hok hN hX hR hrc hrs h
    obtain ⟨g, rfl⟩ : ∃ g, fuel = g + 1 := ⟨fuel - 1, by simp at hf; omega⟩
    obtain ⟨hai, hd2⟩ := drop_at hd
    have hil := (List.getElem?_eq_some_iff.mp hai).1
    have hwx := hPW x (List.mem_of_getElem? hai)
    have hf2 : T.length < g := by simp at hf; omega
    obtain ⟨m, em, mm⟩ := hpl j x hai
    have hm := (List.getElem?_eq_some_iff.mp mm).1
    rw [List.length_cons] at hR
    have hs2 : dCst R.length N + dSum (R.length + 1) (dNew R.length N) (cutL T).length ≤ rs := hrs
    have hc2 : 3 * ((cutL T).length + 1) ≤ rc := hrc
    have e2 : (2 : Int32) * nI (wlen x) = nI (2 * wlen x) := nI_mul 2 (wlen x)
    have hl2 := rcs_len R x (2 * wlen x)
    have hin1 : vp_in (nI j) 3 := nI_in (by omega) (by omega)
    have hin2 : vp_in (nI m) 60 := nI_in (by omega) (by omega)
    unfold P_X9_cutToOrder_L137
    rw [nI_clamp (show j < 2 ^ 31 by omega), em, nI_clamp (show m < 2 ^ 31 by omega), hr.2.2 m x mm, ← nI_succ]
    refine ⟨fun q => absurd q (nI_ge hil (by omega)), fun _ => ⟨hin1, hin2, hin1, hin2, p_xlen (Nat.lt_trans hwx.2.1 (by decide)) ⟨3, dCst R.length N, rc - 3, rs - dCst R.length N, ⟨by omega, by omega⟩, ?_⟩⟩⟩
    rw [e2]
    refine p_xwrite hok hN (by omega) hX (Nat.le_refl _) (Nat.le_refl _) (fun a b c w p' t hX' => ?_)
    refine ih (j + 1) g (R ++ [(x, 2 * wlen x, 0)]) (dNew R.length N) _ _ _ _ _ _ _ _ _ _ hd2 (by omega) hf2 (recOK_add hok hwx (by omega)) (by rw [hl2]; exact capX_new hN (by omega)) hX' (by rw [hl2]; omega) (by omega) (by rw [hl2]; omega) ?_
    intro rc' rs' a4 b4 c4 w4 p4 t4 q1 q2 q3
    rw [rcs_cons] at q1 q2 q3 ⊢
    rw [hl2] at q1 q3 ⊢
    exact h rc' rs' a4 b4 c4 w4 p4 t4 q1 q2 q3
theorem p_xcto (hr : rowIs v1 v6 M) (hd : dRel S M) {p : Int64} {z v0 v2 v3 v4 v5 : Int32} {v7 v8 v9 v18 v19 v20 v21 v22 v23 : Nat → Int32} {u : Nat → Nat} (hu : isU v7 u) {R : List (Nat × Nat × Nat)} (hok : recOK R) {N : Nat} (hN : capX R.length N) {v12 : Nat → Int64} {v15 : Nat → Int32} (hX : recX R v2 N v12 v15 v18) (hR : R.length + 20 ≤ 10240) {v10 v13 v16 : Nat} {L : List (Nat × Nat)} (hL : ∀ n k : Nat, p = lN n → isW n → z = nI k → 1 ≤ k → k ≤ 3 → roomU u (lefU n (plP S n k)) → L = cutL (plP S n k)) {mc ms : Nat} (hm : 3 * L.length ≤ mc) (hs : dSum R.length N L.length ≤ ms) {post : Int32 → Int32 → Int32 → Int32 → Int32 → Int32 → (Nat → Int32) → (Nat → Int32) → (Nat → Int32) → Nat → Nat → (Nat → Int64) → Nat → Nat → (Nat → Int32) → Nat → Nat → (Nat → Int32) → (Nat → Int32) → (Nat → Int32) → (Nat → Int32) → (Nat → Int32) → (Nat → Int32) → Prop}
    (h1 : ∀ n k : Nat, p = lN n → isW n → z = nI k → 1 ≤ k → k ≤ 3 → roomU u (lefU n (plP S n k)) → ∀ x y v' (f8 f9 : Nat → Int32) a b' c w p' t sp co iw o pl, isU v' (fun l => u l + lefU n (plP S n k) l) → (∀ l : Nat, 1 ≤ l → l ≤ 26 → f8 l = v8 l + nI (cnt n l)) → (∀ l : Nat, 1 ≤ l → l ≤ 26 → f9 l = v9 l + nI (cntS (plP S n k) l)) → recX (R ++ rcsL L) (nI (R ++ rcsL L).length) (dFin R.length N L.length) w p' t → recOK (R ++ rcsL L) → capX (R ++ rcsL L).length (dFin R.length N L.length) → post (nI (wlen n - lenS (plP S n k))) 0 (nI (R ++ rcsL L).length) (balI v3 L) x y v' f8 f9 a (dFin R.length N L.length) w b' (dFin R.length N L.length) p' c (dFin R.length N L.length) t sp co iw o pl)
    (h2 : ∀ n k : Nat, p = lN n → isW n → z = nI k → 1 ≤ k → k ≤ 3 → ¬ roomU u (lefU n (plP S n k)) → ∀ x y sp co iw o pl, post 0 2 v2 v3 x y v7 v8 v9 v10 N v12 v13 N v15 v16 N v18 sp co iw o pl)
    (hi : ¬ (isWd p ∧ inR z 1 3) → post 0 1 v2 v3 v4 v5 v7 v8 v9 v10 N v12 v13 N v15 v16 N v18 v19 v20 v21 v22 v23) : P_X9_cutToOrder post mc ms p z v0 v1 v2 v3 v4 v5 v6 v7 v8 v9 v10 N v12 v13 N v15 v16 N v18 v19 v20 v21 v22 v23 := by
  refine p_xisO (fun n k e1 e2 e3 e4 e5 => ⟨fun q => absurd q (by decide), fun _ => ?_⟩) (fun h => ⟨fun _ => hi h, fun q => absurd rfl q⟩)
  have ok := plP_ok S n k
  have hPW : ∀ w ∈ plP S n k, isW w := fun w hw => hd.1.1 w (ok.2.2.2 w hw)
  have hM := dRel_W hd
  have hP3 : (plP S n k).length ≤ 3 := by have := ok.2.2.1; omega
  have k1 := h1 n k e1 e2 e3 e4 e5
  have k2 := h2 n k e1 e2 e3 e4 e5
  have k3 := hL n k e1 e2 e3 e4 e5
  subst e1 e3
  refine p_xplan hr hd e2 e4 e5 (fun sp co iw o pl hs' hpl => ?_)
  have hco := hs'.2
  rw [ok.1]
  refine p_xctA hr hM e2.2.1 hP3 hPW ok.2.1 hpl hco hu (fun hro => ?_) (fun hro => k2 hro _ _ _ _ _ _ _) 26 0 FU rfl (FU_s _ (by omega)) (fun l a b => absurd a (by omega))
  have eL := k3 hro
  have eLn : L.length = (plP S n k).length := by rw [eL]; exact List.length_map _
  have key := p_xctB hr hM e2.2.1 hP3 hPW ok.2.1 hpl hco (z4 := nI (wlen n - lenS (plP S n k))) (v0 := 0) (v2 := v2) (v3 := v3) (v4 := nI (wlen n)) (f7 := v7) (f8 := v8) (f9 := v9) (K := fun (w16 : Nat → Int32) (w17 : Nat → Int32) (w18 : Nat → Int32) => P_X9_cutToOrder_L137 (nI (wlen n - lenS (plP S n k))) 0 v1 (nI (wlen n)) (nI (plP S n k).length) v6 pl (fun (mc49 : Nat) (ms50 : Nat) (w36 : Int32) (w37 : Int32) (w38 : Nat) (w39 : Nat) (w40 : Nat → Int64) (w41 : Nat) (w42 : Nat) (w43 : Nat → Int32) (w44 : Nat) (w45 : Nat) (w46 : Nat → Int32) => post (nI (wlen n - lenS (plP S n k))) 0 w36 w37 (nI (wlen n)) (nI (plP S n k).length) w16 w17 w18 w38 w39 w40 w41 w42 w43 w44 w45 w46 sp co iw o pl) FU mc ms 0 v2 v3 v10 N v12 v13 N v15 v16 N v18)
    (by
      have key2 := p_xctC hr hP3 hPW hpl (z4 := nI (wlen n - lenS (plP S n k))) (v0 := 0) (v4 := nI (wlen n)) (K := fun (mc49 : Nat) (ms50 : Nat) (w36 : Int32) (w37 : Int32) (w38 : Nat) (w39 : Nat) (w40 : Nat → Int64) (w41 : Nat) (w42 : Nat) (w43 : Nat → Int32) (w44 : Nat) (w45 : Nat) (w46 : Nat → Int32) => post (nI (wlen n - lenS (plP S n k))) 0 w36 w37 (nI (wlen n)) (nI (plP S n k).length) (padF v7 (fun l => nI (lefU n (plP S n k) l)) 26) (padF v8 co 26) (padF v9 (fun l => co l - nI (lefU n (plP S n k) l)) 26) w38 w39 w40 w41 w42 w43 w44 w45 w46 sp co iw o pl)
        (plP S n k) 0 FU R N mc ms v2 v3 v10 v12 v13 v15 v16 v18 rfl (Nat.zero_le _) (FU_s _ (by omega)) hok hN hX (by omega) (by rw [← eL]; omega) (by rw [← eL]; omega) (fun rc rs a b' c w p' t g1 g2 g3 => by
          rw [← eL] at g1 g2 g3 ⊢
          refine k1 hro _ _ _ _ _ a b' c w p' t sp co iw o pl (isU_add hu hro (fun l x y => padF_in x y)) (fun l x y => by rw [padF_in x y, hco l y]) (fun l x y => ?_) g1 g2 g3
          have hle := cntS_fit hPW ok.2.1 l
          have e9 : cnt n l - lefU n (plP S n k) l = cntS (plP S n k) l := by show cnt n l - (cnt n l - cntS (plP S n k) l) = _; omega
          rw [padF_in x y, hco l y, nI_sub (show lefU n (plP S n k) l ≤ cnt n l from Nat.sub_le _ _), e9])
      rw [nI_0] at key2
      exact key2) 26 0 FU rfl (FU_s _ (by omega))
  rw [padF_0, padF_0, padF_0] at key
  exact key
end XO
