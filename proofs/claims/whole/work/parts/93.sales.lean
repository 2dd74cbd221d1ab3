/-! the law's calls that write -/
theorem rcsL_len (R : List (Nat × Nat × Nat)) (L : List (Nat × Nat)) : (R ++ rcsL L).length = R.length + L.length := by
  rw [List.length_append]
  unfold rcsL
  rw [List.length_map]
theorem ufin_le (l : Nat) : ∀ (L : List (Nat × Nat)) (u : Nat → Nat), ufin u L l ≤ u l
  | [], _ => Nat.le_refl _
  | e :: L, u => Nat.le_trans (ufin_le l L (subU u e.1)) (Nat.sub_le _ _)
theorem eq_put : ∀ (L : List (Nat × Nat)) (v w : Nat → Int32), eqF v w → eqF (putS v L) (sldS w L)
  | [], _, _, h => h
  | e :: L, v, w, h => eq_put L _ _ (fun l a b => by
    show putF v e.1 1 (wlen e.1) l = addR w e.1 (wlen e.1) l
    rw [putF_1, addR_at, h l a b])
theorem putS_cut (l : Nat) : ∀ (P : List Nat) (v : Nat → Int32), putS v (cutL P) l = v l + nI (cntS P l)
  | [], v => by
    show v l = v l + nI 0
    rw [nI_0, Int32.add_zero]
  | x :: P, v => by
    show putS (putF v x 1 (wlen x)) (cutL P) l = v l + nI (cnt x l + cntS P l)
    rw [putS_cut l P, putF_1, Int32.add_assoc, nI_add]
theorem cs_2500 {z4 : Int32} {v20 : Int32} {v21 : Int32} {v24 : Int32} {v30 : Nat} {v31 : Nat} {v32 : Nat → Int64} {v33 : Nat} {v34 : Nat} {v35 : Nat → Int32} {v36 : Nat} {v37 : Nat} {v46 : Nat} {v47 : Nat → Int32} {v5 : Nat → Int32} {v8 : Int32} {v10 : Nat → Int32} {v18 : Nat → Int32} {v19 : Int32} {v22 : Int32} {v23 : Int32} {v26 : Nat → Int32} {v29 : Nat → Int32} {v38 : Nat → Int32} {v39 : Nat → Int32} {v40 : Nat → Int32} {v44 : Nat → Int64} {v45 : ZL} {rc rs : Nat} {K : Nat → Nat → (Nat → Int32) → Int32 → (Nat → Int32) → (Nat → Int32) → Int32 → Int32 → Int32 → (Nat → Int32) → (Nat → Int32) → (Nat → Int32) → (Nat → Int32) → (Nat → Int32) → (Nat → Int64) → ZL → Prop} (i1 : vp_in (z4 + 1) v46) (hb1 : 10 ≤ rc) (hb2 : 60 ≤ rs) {u : Nat → Nat} (hu : invU u v5 v26) (h8 : v8 = v22) (he : eqF v10 v29) {R : List (Nat × Nat × Nat)} {N : Nat}  (hR : invR R N v45 v21 v31 v32 v34 v35 v37 v38)
    (hK : ∀ (rc' rs' : Nat) (u' : Nat → Nat) R' v5' v8' v10' v18' x v22' y v26' v29' v38' a b w z', rc ≤ rc' + 10 → rs ≤ rs' + 60 → invU u' v5' v26' → v8' = v22' → eqF v10' v29' → invR R' N z' v21 v31 v32 v34 v35 v37 v38' → R'.length = R.length → z'.2.1 = v45.2.1 → K rc' rs' v5' v8' v10' v18' x v22' y v26' v29' v38' a b w z') :
    P_L_law_L2500 z4 v20 v21 v24 v30 v31 v32 v33 v34 v35 v36 v37 v46 v47 K FU rc rs v5 v8 v10 v18 v19 v22 v23 v26 v29 v38 v39 v40 v44 v45 := by
  obtain ⟨f0, hf0⟩ : ∃ f0, FU = f0 + 1 := ⟨19999, rfl⟩
  rw [hf0]
  unfold P_L_law_L2500
  obtain ⟨hz, hc, hok, hN, rfl, e34, e37, hX⟩ := hR
  subst e34 e37
  have same : ∀ v18' x y a b w, K (rc - 10) (rs - 60) v5 v8 v10 v18' x v22 y v26 v29 v38 a b w v45 := fun v18' x y a b w => hK _ _ u R _ _ _ _ _ _ _ _ _ _ _ _ _ _ (by omega) (by omega) hu h8 he ⟨hz, hc, hok, hN, rfl, rfl, rfl, hX⟩ rfl rfl
  refine ⟨i1, rc - 10, rs - 60, ⟨by omega, by omega⟩, ?_⟩
  unfold P_L_takeBack
  refine p_ctake hz hc hok hu.1 (fun j r e hr h0 hro inc hinc => ⟨in01, i1, p_xtake hok hN hX hu.2.1 (fun j' r' e' hr' h0' hro' a sp co => ?_) (fun j' r' e' hr' hq a sp co => ?_) (fun hno => absurd e (hno j (lt_at hr)))⟩) (fun j r e hr hq inc => Or.inr ⟨rfl, i1, p_xtake hok hN hX hu.2.1 (fun j' r' e' hr' h0' hro' a sp co => ?_) (fun j' r' e' hr' hq' a sp co => finX (by decide) (same _ _ _ _ _ _)) (fun hno => absurd e (hno j (lt_at hr)))⟩) (fun hno => Or.inl ⟨rfl, i1, p_xtake hok hN hX hu.2.1 (fun j' r' e' hr' h0' hro' a sp co => absurd e' (hno j' (lt_at hr'))) (fun j' r' e' hr' hq' a sp co => absurd e' (hno j' (lt_at hr'))) (fun _ a sp co => finX (by decide) (same _ _ _ _ _ _))⟩)
  · have ej : j = j' := (neq (by have := lt_at hr; have := hok.2; omega) (by have := lt_at hr'; have := hok.2; omega)).mp (e.symm.trans e')
    subst ej
    rw [hr] at hr'
    have er := Option.some.inj hr'
    subst er
    have g1 := isU_add (w := padF v5 inc 26) hu.1 hro (fun l a b => by rw [padF_in a b, (hinc l a b).1])
    have g2 := isU_add (w := addR v26 r.1 (wlen r.1)) hu.2.1 hro (fun l a b => addR_at v26 r.1 l)
    refine fin0 (hK _ _ _ (R.set j (r.1, r.2.1, 1)) _ _ _ _ _ _ _ _ _ _ _ _ _ _ (by omega) (by omega) ⟨g1, g2, hro⟩ (by rw [h8]) (fun l a b => by rw [putF_m, tkF_at, he l a b]) ⟨rec_set hz hr, ?_, recOK_set hok hr, ?_, rfl, rfl, rfl, recX_set hX hr⟩ (by rw [List.length_set]) rfl)
    · rw [lset_lln]; exact hc
    · rw [List.length_set]; exact hN
  · have ej : j = j' := (neq (by have := lt_at hr; have := hok.2; omega) (by have := lt_at hr'; have := hok.2; omega)).mp (e.symm.trans e')
    subst ej
    rw [hr] at hr'
    have er := Option.some.inj hr'
    subst er
    exact absurd ⟨h0, hro⟩ hq
  · have ej : j = j' := (neq (by have := lt_at hr; have := hok.2; omega) (by have := lt_at hr'; have := hok.2; omega)).mp (e.symm.trans e')
    subst ej
    rw [hr] at hr'
    have er := Option.some.inj hr'
    subst er
    exact absurd ⟨h0', hro'⟩ hq

theorem cs_1635 {z4 : Int32} {v0 : Int32} {v1 : Nat → Int64} {v6 : Nat → Int32} {v7 : Nat → Int32} {v20 : Int32} {v24 : Int32} {v25 : Nat → Int64} {v27 : Nat → Int32} {v46 : Nat} {v47 : Nat → Int32} {v5 : Nat → Int32} {v8 : Int32} {v10 : Nat → Int32} {v19 : Int32} {v21 : Int32} {v22 : Int32} {v23 : Int32} {v26 : Nat → Int32} {v29 : Nat → Int32} {v30 : Nat} {v31 : Nat} {v32 : Nat → Int64} {v33 : Nat} {v34 : Nat} {v35 : Nat → Int32} {v36 : Nat} {v37 : Nat} {v38 : Nat → Int32} {v39 : Nat → Int32} {v40 : Nat → Int32} {v41 : Nat → Int32} {v44 : Nat → Int64} {v45 : ZL} {rc rs : Nat} {K : Nat → Nat → (Nat → Int32) → Int32 → (Nat → Int32) → Int32 → Int32 → Int32 → Int32 → (Nat → Int32) → (Nat → Int32) → Nat → Nat → (Nat → Int64) → Nat → Nat → (Nat → Int32) → Nat → Nat → (Nat → Int32) → (Nat → Int32) → (Nat → Int32) → (Nat → Int32) → (Nat → Int64) → ZL → Prop} (i1 : vp_in (z4 + 1) v46) (i2 : vp_in (z4 + 2) v46) (i3 : vp_in (z4 + 3) v46) (hb1 : 10 ≤ rc) (hb2 : 60 ≤ rs) {S M : List Nat} (hr : rowIs v0 v1 S) (hr2 : rowIs v20 v25 M) (hd : dRel S M) {u : Nat → Nat} (hu : invU u v5 v26) {b : Nat → Nat} (hb : invB b v6 v27) (ht : isWt v7) (h8 : v8 = v22) (he : eqF v10 v29) {R : List (Nat × Nat × Nat)} {N k : Nat}  (hR : invR R N v45 v21 v31 v32 v34 v35 v37 v38) (hB : bud (k + 1) R.length v45.2.1 N rc rs)
    (hK : ∀ (rc' rs' : Nat) (u' : Nat → Nat) R' N' v5' v8' v10' x v21' v22' y v26' v29' v30' v31' v32' v33' v34' v35' v36' v37' v38' a b' c w z', bud k R'.length z'.2.1 N' rc' rs' → invU u' v5' v26' → v8' = v22' → eqF v10' v29' → invR R' N' z' v21' v31' v32' v34' v35' v37' v38' → K rc' rs' v5' v8' v10' x v21' v22' y v26' v29' v30' v31' v32' v33' v34' v35' v36' v37' v38' a b' c w z') :
    P_L_law_L1635 z4 v0 v1 v6 v7 v20 v24 v25 v27 v46 v47 K FU rc rs v5 v8 v10 v19 v21 v22 v23 v26 v29 v30 v31 v32 v33 v34 v35 v36 v37 v38 v39 v40 v41 v44 v45 := by
  obtain ⟨f0, hf0⟩ : ∃ f0, FU = f0 + 1 := ⟨19999, rfl⟩
  rw [hf0]
  unfold P_L_law_L1635
  obtain ⟨hz, hc, hok, hN, e31, e34, e37, hX⟩ := hR
  have e31 := e31.symm
  have e34 := e34.symm
  have e37 := e37.symm
  subst e31 e34 e37
  have hl := rec_len hz
  have hc2 : capL R.length v45.2.1 := by rw [← hl]; exact hc
  have ⟨b1, b2, b3⟩ := bud_g (n := 1) hB (by omega) hc2 hN
  have s1 : gSum R.length v45.2.1 1 = 3 + gCst R.length v45.2.1 + 0 := rfl
  have s2 : dSum R.length N 1 = dCst R.length N + 0 := rfl
  generalize hp : ((((v47 (z4 + 1).toNatClampNeg).toInt64) <<< ((32 : Int32).toInt64 &&& 63)) ||| (((v47 (z4 + 2).toNatClampNeg).toInt64) &&& 4294967295)) = p
  generalize hq : v47 (z4 + 3).toNatClampNeg = q
  by_cases hs : selOK S u b p q
  · obtain ⟨n, B, rfl, hw, rfl, hB2, href⟩ := hs
    refine ⟨i1, i2, i3, 5, 21 + gCst R.length v45.2.1, rc - 5, rs - (21 + gCst R.length v45.2.1), ⟨by omega, by omega⟩, ?_⟩
    unfold P_L_sell
    refine ⟨5, 21 + gCst R.length v45.2.1, 0, 0, ⟨Nat.le_refl _, Nat.le_refl _⟩, p_csellY hr hd.1 hu.1 hb.1 ht hz hc (by omega) hw hB2 href (Nat.le_refl _) (by rw [hl]; exact Nat.le_refl _) (fun v' z' hu' hz' hc' => ⟨in01, i1, i2, i3, 3, dCst R.length N, rc - 5 - 3, rs - (21 + gCst R.length v45.2.1) - dCst R.length N, ⟨by omega, by omega⟩, p_xsellY hr2 hd hu.2.1 hb.2 hok hN hX (by omega) hw hB2 href (Nat.le_refl _) (Nat.le_refl _) (fun v2' x a b' c w p' t sp co iw hu2 hX' => ?_)⟩)⟩
    rw [hl] at hc'
    have hl2 : (R ++ [(n, costN n u b, 0)]).length = R.length + 1 := rcs_len R n _
    have hlz : lln z' = R.length + 1 := by rw [rec_len hz', hl2]
    have ⟨x1, x2, x3⟩ := ref_all href
    refine fin0 (hK _ _ (subU u n) (R ++ [(n, costN n u b, 0)]) (dNew R.length N) _ _ _ _ _ _ _ _ _ _ _ _ _ _ _ _ _ _ _ _ _ _ _  ?_ ⟨hu', hu2, fun l a b => Nat.le_trans (Nat.sub_le _ _) (hu.2.2 l a b)⟩ (by rw [h8]) (fun l a b => by rw [putF_1, addR_at, he l a b]) ⟨hz', ?_, recOK_add hok hw (by omega), ?_, rfl, rfl, rfl, hX'⟩)
    · rw [hl2, hc']
      exact bud_n (n := 1) (x := 18) hB (by omega) hc2 hN (by omega) (by omega) (by omega)
    · rw [hlz, hc']; exact cap_new hc2 (by omega)
    · rw [hl2]; exact capX_new hN (by omega)
  · have same : ∀ x y sp co w z, K (rc - 5) (rs - 21) v5 v8 v10 x v21 v22 y v26 v29 v30 N v32 v33 N v35 v36 N v38 sp co w z v45 := fun x y sp co w z => hK _ _ u R N _ _ _ _ _ _ _ _ _ _ _ _ _ _ _ _ _ _ _ _ _ _ _  (bud_s hB (by omega) (by omega)) hu h8 he ⟨hz, hc, hok, hN, rfl, rfl, rfl, hX⟩
    refine ⟨i1, i2, i3, 5, 21, rc - 5, rs - 21, ⟨by omega, by omega⟩, ?_⟩
    unfold P_L_sell
    exact ⟨5, 21, 0, 0, ⟨Nat.le_refl _, Nat.le_refl _⟩, p_csellN hr hd.1 hu.1 hb.1 ht (Nat.le_refl _) (Nat.le_refl _) hs (fun hv => Or.inr ⟨rfl, i1, i2, i3, 0, 0, rc - 5, rs - 21, ⟨by omega, by omega⟩, p_xsellN hr2 hd hu.2.1 hb.2 hs (fun _ a sp co w => finX (by decide) (same _ _ _ _ _ _)) (fun hq => absurd hv hq)⟩) (fun hv => Or.inl ⟨rfl, i1, i2, i3, 0, 0, rc - 5, rs - 21, ⟨by omega, by omega⟩, p_xsellN hr2 hd hu.2.1 hb.2 hs (fun hq => absurd hq hv) (fun _ a sp co w => finX (by decide) (same _ _ _ _ _ _))⟩)⟩

theorem cs_1846 {z4 : Int32} {v0 : Int32} {v1 : Nat → Int64} {v6 : Nat → Int32} {v7 : Nat → Int32} {v20 : Int32} {v24 : Int32} {v25 : Nat → Int64} {v27 : Nat → Int32} {v46 : Nat} {v47 : Nat → Int32} {v5 : Nat → Int32} {v8 : Int32} {v10 : Nat → Int32} {v19 : Int32} {v21 : Int32} {v22 : Int32} {v23 : Int32} {v26 : Nat → Int32} {v29 : Nat → Int32} {v30 : Nat} {v31 : Nat} {v32 : Nat → Int64} {v33 : Nat} {v34 : Nat} {v35 : Nat → Int32} {v36 : Nat} {v37 : Nat} {v38 : Nat → Int32} {v39 : Nat → Int32} {v40 : Nat → Int32} {v41 : Nat → Int32} {v44 : Nat → Int64} {v45 : ZL} {rc rs : Nat} {K : Nat → Nat → (Nat → Int32) → Int32 → (Nat → Int32) → Int32 → Int32 → Int32 → Int32 → (Nat → Int32) → (Nat → Int32) → Nat → Nat → (Nat → Int64) → Nat → Nat → (Nat → Int32) → Nat → Nat → (Nat → Int32) → (Nat → Int32) → (Nat → Int32) → (Nat → Int32) → (Nat → Int64) → ZL → Prop} (i1 : vp_in (z4 + 1) v46) (hb1 : 10 ≤ rc) (hb2 : 60 ≤ rs) {S M : List Nat} (hr : rowIs v0 v1 S) (hr2 : rowIs v20 v25 M) (hd : dRel S M) {u : Nat → Nat} (hu : invU u v5 v26) {b : Nat → Nat} (hb : invB b v6 v27) (ht : isWt v7) (h8 : v8 = v22) (he : eqF v10 v29) {R : List (Nat × Nat × Nat)} {N k : Nat}  (hR : invR R N v45 v21 v31 v32 v34 v35 v37 v38) (hB : bud (k + 1) R.length v45.2.1 N rc rs)
    (hK : ∀ (rc' rs' : Nat) (u' : Nat → Nat) R' N' v5' v8' v10' x v21' v22' y v26' v29' v30' v31' v32' v33' v34' v35' v36' v37' v38' a b' c w z', bud k R'.length z'.2.1 N' rc' rs' → invU u' v5' v26' → v8' = v22' → eqF v10' v29' → invR R' N' z' v21' v31' v32' v34' v35' v37' v38' → K rc' rs' v5' v8' v10' x v21' v22' y v26' v29' v30' v31' v32' v33' v34' v35' v36' v37' v38' a b' c w z') :
    P_L_law_L1846 z4 v0 v1 v6 v7 v20 v24 v25 v27 v46 v47 K FU rc rs v5 v8 v10 v19 v21 v22 v23 v26 v29 v30 v31 v32 v33 v34 v35 v36 v37 v38 v39 v40 v41 v44 v45 := by
  obtain ⟨f0, hf0⟩ : ∃ f0, FU = f0 + 1 := ⟨19999, rfl⟩
  rw [hf0]
  unfold P_L_law_L1846
  obtain ⟨hz, hc, hok, hN, e31, e34, e37, hX⟩ := hR
  have e31 := e31.symm
  have e34 := e34.symm
  have e37 := e37.symm
  subst e31 e34 e37
  have hl := rec_len hz
  have hc2 : capL R.length v45.2.1 := by rw [← hl]; exact hc
  generalize hp : v47 (z4 + 1).toNatClampNeg = p
  obtain ⟨L, hL, hLn, hL0⟩ : ∃ L : List (Nat × Nat), (∀ B : Nat, p = nI B → B ≤ 99999 → spR S b 20 B u L) ∧ L.length ≤ 20 ∧ (¬ inR p 0 99999 → L = []) := by
    by_cases hv : inR p 0 99999
    · obtain ⟨B, -, hB2, e⟩ := hv
      obtain ⟨L, h1, h2, -⟩ := spR_ex (b := b) hd.1.1 20 B u
      refine ⟨L, fun B' e' hB' => ?_, h2, fun q => absurd ⟨B, Nat.zero_le _, hB2, e⟩ q⟩
      have eB : B = B' := (neq (by omega) (by omega)).mp (e.symm.trans e')
      rw [← eB]; exact h1
    · exact ⟨[], fun B e hB' => absurd ⟨B, Nat.zero_le _, hB', e⟩ hv, Nat.zero_le _, fun _ => rfl⟩
  have ⟨b1, b2, b3⟩ := bud_g hB hLn hc2 hN
  refine ⟨i1, 1 + 2 * L.length, 6 + gSum R.length v45.2.1 L.length, rc - (1 + 2 * L.length), rs - (6 + gSum R.length v45.2.1 L.length), ⟨by omega, by omega⟩, ?_⟩
  unfold P_L_spend
  refine ⟨1 + 2 * L.length, 6 + gSum R.length v45.2.1 L.length, 0, 0, ⟨Nat.le_refl _, Nat.le_refl _⟩, p_cspend hr hd.1 hu.1 hb.1 ht hz hc b3 hL (Nat.le_refl _) (by rw [hl]; exact Nat.le_refl _) (fun hv v' z' g1 g2 g3 g4 => ⟨in01, i1, 3 * L.length, dSum R.length N L.length, rc - (1 + 2 * L.length) - 3 * L.length, rs - (6 + gSum R.length v45.2.1 L.length) - dSum R.length N L.length, ⟨by omega, by omega⟩, p_xspend hr2 hd hu.2.1 hb.2 hok hN hX b3 hL (Nat.le_refl _) (Nat.le_refl _) (fun _ v2' x a b' c w p' t sp co iw q1 q2 q3 q4 => ?_) (fun hq => absurd hv hq)⟩) (fun hv => ⟨rfl, i1, 0, 0, rc - (1 + 2 * L.length), rs - (6 + gSum R.length v45.2.1 L.length), ⟨by omega, by omega⟩, ?_⟩)⟩
  · rw [hl] at g3
    have hl2 := rcsL_len R L
    refine fin0 (hK _ _ (ufin u L) (R ++ rcsL L) (dFin R.length N L.length) _ _ _ _ _ _ _ _ _ _ _ _ _ _ _ _ _ _ _ _ _ _ _  ?_ ⟨g1, q1, fun l a b => Nat.le_trans (ufin_le l L u) (hu.2.2 l a b)⟩ (by rw [h8]) (eq_put L _ _ he) ⟨g2, g4, q3, q4, rfl, rfl, rfl, q2⟩)
    rw [hl2, g3]
    exact bud_n (x := 6) hB hLn hc2 hN (by omega) (by omega) (by omega)
  · have eL := hL0 hv
    subst eL
    have z0 : gSum R.length v45.2.1 ([] : List (Nat × Nat)).length = 0 := rfl
    have z1 : ([] : List (Nat × Nat)).length = 0 := rfl
    refine p_xspend hr2 hd hu.2.1 hb.2 hok hN hX b3 hL (Nat.le_refl _) (Nat.le_refl _) (fun hq => absurd hq hv) (fun _ => finX (by decide) (hK _ _ u R N _ _ _ _ _ _ _ _ _ _ _ _ _ _ _ _ _ _ _ _ _ _ _  (bud_s hB (by omega) (by omega)) hu h8 he ⟨hz, hc, hok, hN, rfl, rfl, rfl, hX⟩))

theorem cs_2213 {z4 : Int32} {v0 : Int32} {v1 : Nat → Int64} {v20 : Int32} {v25 : Nat → Int64} {v46 : Nat} {v47 : Nat → Int32} {v2 : Int32} {v3 : Nat → Int64} {v4 : Nat → Int32} {v5 : Nat → Int32} {v8 : Int32} {v9 : Nat → Int32} {v10 : Nat → Int32} {v11 : Int32} {v12 : Int32} {v13 : Nat → Int32} {v14 : Int32} {v15 : Nat → Int64} {v16 : Int32} {v17 : Nat → Int64} {v19 : Int32} {v21 : Int32} {v22 : Int32} {v23 : Int32} {v24 : Int32} {v26 : Nat → Int32} {v28 : Nat → Int32} {v29 : Nat → Int32} {v30 : Nat} {v31 : Nat} {v32 : Nat → Int64} {v33 : Nat} {v34 : Nat} {v35 : Nat → Int32} {v36 : Nat} {v37 : Nat} {v38 : Nat → Int32} {v39 : Nat → Int32} {v40 : Nat → Int32} {v41 : Nat → Int32} {v42 : Nat → Int32} {v43 : Nat → Int32} {v44 : Nat → Int64} {v45 : ZL} {rc rs : Nat} {K : Nat → Nat → Int32 → (Nat → Int64) → (Nat → Int32) → (Nat → Int32) → Int32 → (Nat → Int32) → (Nat → Int32) → Int32 → Int32 → (Nat → Int32) → Int32 → (Nat → Int64) → Int32 → (Nat → Int64) → Int32 → Int32 → Int32 → Int32 → Int32 → (Nat → Int32) → (Nat → Int32) → (Nat → Int32) → Nat → Nat → (Nat → Int64) → Nat → Nat → (Nat → Int32) → Nat → Nat → (Nat → Int32) → (Nat → Int32) → (Nat → Int32) → (Nat → Int32) → (Nat → Int32) → (Nat → Int32) → (Nat → Int64) → ZL → Prop} (i1 : vp_in (z4 + 1) v46) (i2 : vp_in (z4 + 2) v46) (i3 : vp_in (z4 + 3) v46) (hb1 : 10 ≤ rc) (hb2 : 60 ≤ rs) {S M : List Nat} (hr : rowIs v0 v1 S) (hr2 : rowIs v20 v25 M) (hd : dRel S M) {u : Nat → Nat} (hu : invU u v5 v26) (h8 : v8 = v22) (he9 : eqF v9 v28) (he : eqF v10 v29) (h14 : rowIs v14 v15 []) {R : List (Nat × Nat × Nat)} {N k : Nat}  (hR : invR R N v45 v21 v31 v32 v34 v35 v37 v38) (hB : bud (k + 1) R.length v45.2.1 N rc rs)
    (hK : ∀ (rc' rs' : Nat) (u' : Nat → Nat) R' N' x_v2 x_v3 x_v4 x_v5 x_v8 x_v9 x_v10 x_v11 x_v12 x_v13 x_v14 x_v15 x_v16 x_v17 x_v19 x_v21 x_v22 x_v23 x_v24 x_v26 x_v28 x_v29 x_v30 x_v31 x_v32 x_v33 x_v34 x_v35 x_v36 x_v37 x_v38 x_v39 x_v40 x_v41 x_v42 x_v43 x_v44 x_v45, bud k R'.length x_v45.2.1 N' rc' rs' → invU u' x_v5 x_v26 → x_v8 = x_v22 → eqF x_v9 x_v28 → eqF x_v10 x_v29 → rowIs x_v14 x_v15 [] → invR R' N' x_v45 x_v21 x_v31 x_v32 x_v34 x_v35 x_v37 x_v38 → K rc' rs' x_v2 x_v3 x_v4 x_v5 x_v8 x_v9 x_v10 x_v11 x_v12 x_v13 x_v14 x_v15 x_v16 x_v17 x_v19 x_v21 x_v22 x_v23 x_v24 x_v26 x_v28 x_v29 x_v30 x_v31 x_v32 x_v33 x_v34 x_v35 x_v36 x_v37 x_v38 x_v39 x_v40 x_v41 x_v42 x_v43 x_v44 x_v45) :
    P_L_law_L2213 z4 v0 v1 v20 v25 v46 v47 K FU rc rs v2 v3 v4 v5 v8 v9 v10 v11 v12 v13 v14 v15 v16 v17 v19 v21 v22 v23 v24 v26 v28 v29 v30 v31 v32 v33 v34 v35 v36 v37 v38 v39 v40 v41 v42 v43 v44 v45 := by
  obtain ⟨f0, hf0⟩ : ∃ f0, FU = f0 + 1 := ⟨19999, rfl⟩
  rw [hf0]
  unfold P_L_law_L2213
  obtain ⟨hz, hc, hok, hN, e31, e34, e37, hX⟩ := hR
  have e31 := e31.symm
  have e34 := e34.symm
  have e37 := e37.symm
  subst e31 e34 e37
  have hl := rec_len hz
  have hc2 : capL R.length v45.2.1 := by rw [← hl]; exact hc
  generalize hp : ((((v47 (z4 + 1).toNatClampNeg).toInt64) <<< ((32 : Int32).toInt64 &&& 63)) ||| (((v47 (z4 + 2).toNatClampNeg).toInt64) &&& 4294967295)) = p
  generalize hq : v47 (z4 + 3).toNatClampNeg = q
  obtain ⟨L, hL, hLn, hL0⟩ : ∃ L : List (Nat × Nat), (∀ n k : Nat, p = lN n → isW n → q = nI k → 1 ≤ k → k ≤ 3 → roomU u (lefU n (plP S n k)) → L = cutL (plP S n k)) ∧ L.length ≤ 20 ∧ (¬ (∃ n k : Nat, p = lN n ∧ isW n ∧ q = nI k ∧ 1 ≤ k ∧ k ≤ 3 ∧ roomU u (lefU n (plP S n k))) → L = []) := by
    by_cases hv : ∃ n k : Nat, p = lN n ∧ isW n ∧ q = nI k ∧ 1 ≤ k ∧ k ≤ 3 ∧ roomU u (lefU n (plP S n k))
    · obtain ⟨n, k, e1, e2, e3, e4, e5, e6⟩ := id hv
      refine ⟨cutL (plP S n k), fun n' k' e1' e2' e3' e4' e5' e6' => ?_, ?_, fun w => absurd hv w⟩
      · have en := lNu (e1.symm.trans e1') e2 e2'
        have ek : k = k' := (neq (by omega) (by omega)).mp (e3.symm.trans e3')
        rw [en, ek]
      · have := (plP_ok S n k).2.2.1
        unfold cutL
        rw [List.length_map]
        omega
    · exact ⟨[], fun n k e1 e2 e3 e4 e5 e6 => absurd ⟨n, k, e1, e2, e3, e4, e5, e6⟩ hv, Nat.zero_le _, fun _ => rfl⟩
  have ⟨b1, b2, b3⟩ := bud_g hB hLn hc2 hN
  have same : L = [] → ∀ s_v2 s_v3 s_v4 s_v11 s_v12 s_v13 s_v14 s_v15 s_v16 s_v17 s_v19 s_v23 s_v24 s_v39 s_v40 s_v41 s_v42 s_v43 s_v44, rowIs s_v14 s_v15 [] → K (rc - (4 + 2 * L.length)) (rs - (24 + gSum R.length v45.2.1 L.length)) s_v2 s_v3 s_v4 v5 v8 v9 v10 s_v11 s_v12 s_v13 s_v14 s_v15 s_v16 s_v17 s_v19 v21 v22 s_v23 s_v24 v26 v28 v29 v30 N v32 v33 N v35 v36 N v38 s_v39 s_v40 s_v41 s_v42 s_v43 s_v44 v45 := fun eL s_v2 s_v3 s_v4 s_v11 s_v12 s_v13 s_v14 s_v15 s_v16 s_v17 s_v19 s_v23 s_v24 s_v39 s_v40 s_v41 s_v42 s_v43 s_v44 h3 => by
    subst eL
    have z0 : gSum R.length v45.2.1 ([] : List (Nat × Nat)).length = 0 := rfl
    have z1 : ([] : List (Nat × Nat)).length = 0 := rfl
    exact hK _ _ u R N _ _ _ _ _ _ _ _ _ _ _ _ _ _ _ _ _ _ _ _ _ _ _ _ _ _ _ _ _ _ _ _ _ _ _ _ _ _  (bud_s hB (by omega) (by omega)) hu h8 he9 he h3 ⟨hz, hc, hok, hN, rfl, rfl, rfl, hX⟩
  refine ⟨i1, i2, i3, 4 + 2 * L.length, 24 + gSum R.length v45.2.1 L.length, rc - (4 + 2 * L.length), rs - (24 + gSum R.length v45.2.1 L.length), ⟨by omega, by omega⟩, ?_⟩
  unfold P_L_cutToOrder
  refine ⟨4 + 2 * L.length, 24 + gSum R.length v45.2.1 L.length, 0, 0, ⟨Nat.le_refl _, Nat.le_refl _⟩, p_ccto hr hd.1 h14 hu.1 hz hc b3 hL (Nat.le_refl _) (by rw [hl]; exact Nat.le_refl _) (fun n k e1 e2 e3 e4 e5 hro c1 f1 w4 v' a b left c2 f2 c3 f3 z' g1 g2 g3 g4 g5 => ⟨in01, i1, i2, i3, 3 * L.length, dSum R.length N L.length, rc - (4 + 2 * L.length) - 3 * L.length, rs - (24 + gSum R.length v45.2.1 L.length) - dSum R.length N L.length, ⟨by omega, by omega⟩, p_xcto hr2 hd hu.2.1 hok hN hX b3 hL (Nat.le_refl _) (Nat.le_refl _) (fun n' k' e1' e2' e3' e4' e5' hro' x y v2' f8 f9 a' b' c w p' t sp co iw o pl q1 q2 q3 q4 q5 q6 => ?_) (fun n' k' e1' e2' e3' e4' e5' hro' x y sp co iw o pl => ?_) (fun hq => absurd ⟨⟨n, e1, e2⟩, ⟨k, e4, e5, e3⟩⟩ hq)⟩) (fun n k e1 e2 e3 e4 e5 hro c1 f1 w4 a b left c2 f2 c3 f3 h3 => Or.inr ⟨rfl, i1, i2, i3, 0, 0, rc - (4 + 2 * L.length), rs - (24 + gSum R.length v45.2.1 L.length), ⟨by omega, by omega⟩, ?_⟩) (fun hv => Or.inl ⟨rfl, i1, i2, i3, 0, 0, rc - (4 + 2 * L.length), rs - (24 + gSum R.length v45.2.1 L.length), ⟨by omega, by omega⟩, ?_⟩)⟩
  · have en := lNu (e1.symm.trans e1') e2 e2'
    subst en
    have ek : k = k' := (neq (by omega) (by omega)).mp (e3.symm.trans e3')
    subst ek
    rw [hl] at g4
    have hl2 := rcsL_len R L
    have eL := hL n k e1 e2 e3 e4 e5 hro
    refine fin0 (hK _ _ (fun l => u l + lefU n (plP S n k) l) (R ++ rcsL L) (dFin R.length N L.length) _ _ _ _ _ _ _ _ _ _ _ _ _ _ _ _ _ _ _ _ _ _ _ _ _ _ _ _ _ _ _ _ _ _ _ _ _ _  ?_ ⟨g1, q1, hro⟩ (by rw [h8]) (fun l a b => by rw [putF_1, q2 l a b, he9 l a b]) (fun l a b => by rw [eL, putS_cut, q3 l a b, he l a b]) g2 ⟨g3, g5, q5, q6, rfl, rfl, rfl, q4⟩)
    rw [hl2, g4]
    exact bud_n (x := 24) hB hLn hc2 hN (by omega) (by omega) (by omega)
  · have en := lNu (e1.symm.trans e1') e2 e2'
    subst en
    have ek : k = k' := (neq (by omega) (by omega)).mp (e3.symm.trans e3')
    subst ek
    exact absurd hro hro'
  · have eL : L = [] := hL0 (fun ⟨n', k', e1', e2', e3', e4', e5', hro'⟩ => by
      have en := lNu (e1.symm.trans e1') e2 e2'
      subst en
      have ek : k = k' := (neq (by omega) (by omega)).mp (e3.symm.trans e3')
      subst ek
      exact hro hro')
    refine p_xcto hr2 hd hu.2.1 hok hN hX b3 hL (by rw [eL]; exact Nat.le_refl _) (by rw [eL]; exact Nat.le_refl _) (fun n' k' e1' e2' e3' e4' e5' hro' => ?_) (fun n' k' e1' e2' e3' e4' e5' hro' x y sp co iw o pl => finX (by decide) (same eL _ _ _ _ _ _ _ _ _ _ _ _ _ _ _ _ _ _ _  h3)) (fun hq => absurd ⟨⟨n, e1, e2⟩, ⟨k, e4, e5, e3⟩⟩ hq)
    have en := lNu (e1.symm.trans e1') e2 e2'
    subst en
    have ek : k = k' := (neq (by omega) (by omega)).mp (e3.symm.trans e3')
    subst ek
    exact absurd hro' hro
  · have eL : L = [] := hL0 (fun ⟨n', k', e1', e2', e3', e4', e5', hro'⟩ => hv ⟨⟨n', e1', e2'⟩, ⟨k', e4', e5', e3'⟩⟩)
    exact p_xcto hr2 hd hu.2.1 hok hN hX b3 hL (by rw [eL]; exact Nat.le_refl _) (by rw [eL]; exact Nat.le_refl _) (fun n' k' e1' e2' e3' e4' e5' hro' => absurd ⟨⟨n', e1', e2'⟩, ⟨k', e4', e5', e3'⟩⟩ hv) (fun n' k' e1' e2' e3' e4' e5' hro' => absurd ⟨⟨n', e1', e2'⟩, ⟨k', e4', e5', e3'⟩⟩ hv) (fun _ => finX (by decide) (same eL _ _ _ _ _ _ _ _ _ _ _ _ _ _ _ _ _ _ _  h14))

