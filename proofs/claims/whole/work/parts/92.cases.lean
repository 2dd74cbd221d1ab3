/-! the law, case by case -/
theorem cs_196 {z4 : Int32} {v21 : Int32} {v22 : Int32} {v23 : Int32} {v24 : Int32} {v46 : Nat} {v47 : Nat → Int32} {v0 : Int32} {v1 : Nat → Int64} {v19 : Int32} {v20 : Int32} {v25 : Nat → Int64} {v44 : Nat → Int64} {rc rs : Nat} {K : Nat → Nat → Int32 → (Nat → Int64) → Int32 → Int32 → (Nat → Int64) → (Nat → Int64) → Prop} (i1 : vp_in (z4 + 1) v46) (i2 : vp_in (z4 + 2) v46) (hb1 : 10 ≤ rc) (hb2 : 60 ≤ rs) {S M : List Nat} (hr : rowIs v0 v1 S) (hr2 : rowIs v20 v25 M) (hd : dRel S M)
    (hK : ∀ (rc' rs' : Nat) S' M' a b c d e w, rc ≤ rc' + 10 → rs ≤ rs' + 60 → rowIs a b S' → rowIs d e M' → dRel S' M' → K rc' rs' a b c d e w) :
    P_L_law_L196 z4 v21 v22 v23 v24 v46 v47 K FU rc rs v0 v1 v19 v20 v25 v44 := by
  obtain ⟨f0, hf0⟩ : ∃ f0, FU = f0 + 1 := ⟨19999, rfl⟩
  rw [hf0]
  unfold P_L_law_L196
  have hl : M.length = S.length := hd.2.length_eq
  have hmm : ∀ x, x ∈ M ↔ x ∈ S := fun x => hd.2.mem_iff
  refine ⟨i1, i2, rc - 10, rs - 60, ⟨by omega, by omega⟩, ?_⟩
  unfold P_L_addWord
  refine p_cadd hr hd.1 (fun n e hw hn hn60 f' hf' => ⟨in01, i1, i2, p_xadd hr2 (dRel_W hd) (fun n' e' hw' hn' hl' f2 hf2 => ?_) (fun hb => absurd ⟨n, e, hw⟩ hb) (fun n' e' hw' hq => ?_)⟩) (fun hb => Or.inl ⟨rfl, i1, i2, p_xadd hr2 (dRel_W hd) (fun n' e' hw' _ _ _ _ => absurd ⟨n', e', hw'⟩ hb) (fun _ => finX (by decide) (hK _ _ _ _ _ _ _ _ _ _ (by omega) (by omega) hr hr2 hd)) (fun n' e' hw' _ => absurd ⟨n', e', hw'⟩ hb)⟩) (fun n e hw hq => Or.inr ⟨rfl, i1, i2, p_xadd hr2 (dRel_W hd) (fun n' e' hw' hn' hl' f2 hf2 => ?_) (fun hb => absurd ⟨n, e, hw⟩ hb) (fun n' e' hw' hq' => finX (by decide) (hK _ _ _ _ _ _ _ _ _ _ (by omega) (by omega) hr hr2 hd))⟩)
  · have en := lNu (e.symm.trans e') hw hw'
    subst en
    rw [hl] at hf2 ⊢
    exact fin0 (hK _ _ _ _ _ _ _ _ _ _ (by omega) (by omega) hf' hf2 (dRel_ins hd hw hn))
  · have en := lNu (e.symm.trans e') hw hw'
    subst en
    rcases hq with q | q
    · exact absurd ((hmm n).mp q) hn
    · omega
  · have en := lNu (e.symm.trans e') hw hw'
    subst en
    rcases hq with q | q
    · exact absurd ((hmm n).mpr q) hn'
    · omega

theorem cs_284 {z4 : Int32} {v21 : Int32} {v22 : Int32} {v23 : Int32} {v24 : Int32} {v46 : Nat} {v47 : Nat → Int32} {v0 : Int32} {v1 : Nat → Int64} {v19 : Int32} {v20 : Int32} {v25 : Nat → Int64} {v44 : Nat → Int64} {rc rs : Nat} {K : Nat → Nat → Int32 → (Nat → Int64) → Int32 → Int32 → (Nat → Int64) → (Nat → Int64) → Prop} (i1 : vp_in (z4 + 1) v46) (i2 : vp_in (z4 + 2) v46) (hb1 : 10 ≤ rc) (hb2 : 60 ≤ rs) {S M : List Nat} (hr : rowIs v0 v1 S) (hr2 : rowIs v20 v25 M) (hd : dRel S M)
    (hK : ∀ (rc' rs' : Nat) S' M' a b c d e w, rc ≤ rc' + 10 → rs ≤ rs' + 60 → rowIs a b S' → rowIs d e M' → dRel S' M' → K rc' rs' a b c d e w) :
    P_L_law_L284 z4 v21 v22 v23 v24 v46 v47 K FU rc rs v0 v1 v19 v20 v25 v44 := by
  obtain ⟨f0, hf0⟩ : ∃ f0, FU = f0 + 1 := ⟨19999, rfl⟩
  rw [hf0]
  unfold P_L_law_L284
  have hl : M.length = S.length := hd.2.length_eq
  have hmm : ∀ x, x ∈ M ↔ x ∈ S := fun x => hd.2.mem_iff
  refine ⟨i1, i2, rc - 10, rs - 60, ⟨by omega, by omega⟩, ?_⟩
  unfold P_L_removeWord
  refine p_crem hr hd.1 (fun n e hw hn f' hf' => ⟨in01, i1, i2, p_xrem hr2 (dRel_W hd) (fun n' k z e' hw' hk hz f2 hf2 => ?_) (fun hb => absurd ⟨n, e, hw⟩ hb) (fun n' e' hw' hq => ?_)⟩) (fun hb => Or.inl ⟨rfl, i1, i2, p_xrem hr2 (dRel_W hd) (fun n' _ _ e' hw' _ _ _ _ => absurd ⟨n', e', hw'⟩ hb) (fun _ => finX (by decide) (hK _ _ _ _ _ _ _ _ _ _ (by omega) (by omega) hr hr2 hd)) (fun n' e' hw' _ => absurd ⟨n', e', hw'⟩ hb)⟩) (fun n e hw hq => Or.inr ⟨rfl, i1, i2, p_xrem hr2 (dRel_W hd) (fun n' k z e' hw' hk hz f2 hf2 => ?_) (fun hb => absurd ⟨n, e, hw⟩ hb) (fun n' e' hw' hq' => finX (by decide) (hK _ _ _ _ _ _ _ _ _ _ (by omega) (by omega) hr hr2 hd))⟩)
  · have en := lNu (e.symm.trans e') hw hw'
    subst en
    rw [hl] at hf2 ⊢
    exact fin0 (hK _ _ _ _ _ _ _ _ _ _ (by omega) (by omega) hf' hf2 (dRel_del hd hn hk hz))
  · have en := lNu (e.symm.trans e') hw hw'
    subst en
    exact absurd ((hmm n).mpr hn) hq
  · have en := lNu (e.symm.trans e') hw hw'
    subst en
    exact absurd ((hmm n).mp (List.mem_of_getElem? hk)) hq

theorem cs_372 {z4 : Int32} {v0 : Int32} {v20 : Int32} {v21 : Int32} {v22 : Int32} {v23 : Int32} {v24 : Int32} {v19 : Int32} {rc rs : Nat} {K : Nat → Nat → Int32 → Prop}  (hb1 : 10 ≤ rc) (hb2 : 60 ≤ rs) {v1 : Nat → Int64} {v25 : Nat → Int64} {S M : List Nat} (hr : rowIs v0 v1 S) (hr2 : rowIs v20 v25 M) (hd : dRel S M)
    (hK : ∀ (rc' rs' : Nat) x_v19, rc ≤ rc' + 10 → rs ≤ rs' + 60 → K rc' rs' x_v19) :
    P_L_law_L372 z4 v0 v20 v21 v22 v23 v24 K FU rc rs v19 := by
  obtain ⟨f0, hf0⟩ : ∃ f0, FU = f0 + 1 := ⟨19999, rfl⟩
  rw [hf0]
  unfold P_L_law_L372
  have hl : M.length = S.length := hd.2.length_eq
  have e : v0 = v20 := by rw [hr.1, hr2.1, hl]
  exact ⟨fun _ => hK _ _ _ (by omega) (by omega), fun q => absurd e q⟩

theorem cs_722 {z4 : Int32} {v0 : Int32} {v1 : Nat → Int64} {v20 : Int32} {v21 : Int32} {v22 : Int32} {v24 : Int32} {v25 : Nat → Int64} {v2 : Int32} {v3 : Nat → Int64} {v4 : Nat → Int32} {v19 : Int32} {v23 : Int32} {v39 : Nat → Int32} {v40 : Nat → Int32} {rc rs : Nat} {K : Nat → Nat → Int32 → (Nat → Int64) → (Nat → Int32) → Int32 → Int32 → (Nat → Int32) → (Nat → Int32) → Prop}  (hb1 : 10 ≤ rc) (hb2 : 60 ≤ rs) {S M : List Nat} (hr : rowIs v0 v1 S) (hr2 : rowIs v20 v25 M) (hd : dRel S M)
    (hK : ∀ (rc' rs' : Nat) x_v2 x_v3 x_v4 x_v19 x_v23 x_v39 x_v40, rc ≤ rc' + 10 → rs ≤ rs' + 60 → K rc' rs' x_v2 x_v3 x_v4 x_v19 x_v23 x_v39 x_v40) :
    P_L_law_L722 z4 v0 v1 v20 v21 v22 v24 v25 K FU rc rs v2 v3 v4 v19 v23 v39 v40 := by
  obtain ⟨f0, hf0⟩ : ∃ f0, FU = f0 + 1 := ⟨19999, rfl⟩
  rw [hf0]
  unfold P_L_law_L722
  exact p_clar hr hd.1 (fun a b c => p_xlar hr2 hd (fun x y z => ⟨fun _ => hK _ _ _ _ _ _ _ _ _ (by omega) (by omega), fun q => absurd rfl q⟩))

theorem cs_1078 {z4 : Int32} {v5 : Nat → Int32} {v20 : Int32} {v21 : Int32} {v22 : Int32} {v23 : Int32} {v24 : Int32} {v26 : Nat → Int32} {v19 : Int32} {rc rs : Nat} {K : Nat → Nat → Int32 → Prop}  (hb1 : 10 ≤ rc) (hb2 : 60 ≤ rs) {u : Nat → Nat} (hu : invU u v5 v26)
    (hK : ∀ (rc' rs' : Nat) x_v19, rc ≤ rc' + 10 → rs ≤ rs' + 60 → K rc' rs' x_v19) :
    P_L_law_L1078 z4 v5 v20 v21 v22 v23 v24 v26 K FU rc rs v19 := by
  obtain ⟨f0, hf0⟩ : ∃ f0, FU = f0 + 1 := ⟨19999, rfl⟩
  rw [hf0]
  unfold P_L_law_L1078
  have e : sumI v5 26 = sumI v26 26 := sumI_ext 26 (fun l a b => by rw [(hu.1 l a b).1, (hu.2.1 l a b).1])
  exact p_total (p_xtotal ⟨fun _ => hK _ _ _ (by omega) (by omega), fun q => absurd e q⟩)

theorem cs_2313 {z4 : Int32} {v8 : Int32} {v20 : Int32} {v21 : Int32} {v22 : Int32} {v23 : Int32} {v24 : Int32} {v45 : ZL} {v19 : Int32} {rc rs : Nat} {K : Nat → Nat → Int32 → Prop}  (hb1 : 10 ≤ rc) (hb2 : 60 ≤ rs) {R : List (Nat × Nat × Nat)} (hz : recZ R v45) (h21 : v21 = nI R.length)
    (hK : ∀ (rc' rs' : Nat) x_v19, rc ≤ rc' + 10 → rs ≤ rs' + 60 → K rc' rs' x_v19) :
    P_L_law_L2313 z4 v8 v20 v21 v22 v23 v24 v45 K FU rc rs v19 := by
  obtain ⟨f0, hf0⟩ : ∃ f0, FU = f0 + 1 := ⟨19999, rfl⟩
  rw [hf0]
  unfold P_L_law_L2313
  have e : lsz v45 = v21 := by unfold lsz; rw [rec_len hz, h21]
  exact ⟨fun _ => hK _ _ _ (by omega) (by omega), fun q => absurd e q⟩

theorem cs_2556 {z4 : Int32} {v8 : Int32} {v20 : Int32} {v21 : Int32} {v22 : Int32} {v23 : Int32} {v24 : Int32} {v19 : Int32} {rc rs : Nat} {K : Nat → Nat → Int32 → Prop}  (hb1 : 10 ≤ rc) (hb2 : 60 ≤ rs) (h8 : v8 = v22)
    (hK : ∀ (rc' rs' : Nat) x_v19, rc ≤ rc' + 10 → rs ≤ rs' + 60 → K rc' rs' x_v19) :
    P_L_law_L2556 z4 v8 v20 v21 v22 v23 v24 K FU rc rs v19 := by
  obtain ⟨f0, hf0⟩ : ∃ f0, FU = f0 + 1 := ⟨19999, rfl⟩
  rw [hf0]
  unfold P_L_law_L2556
  exact ⟨fun _ => hK _ _ _ (by omega) (by omega), fun q => absurd h8 q⟩

theorem cs_385 {z4 : Int32} {v0 : Int32} {v1 : Nat → Int64} {v20 : Int32} {v21 : Int32} {v22 : Int32} {v23 : Int32} {v24 : Int32} {v25 : Nat → Int64} {v40 : Nat → Int32} {v46 : Nat} {v47 : Nat → Int32} {v19 : Int32} {v44 : Nat → Int64} {rc rs : Nat} {K : Nat → Nat → Int32 → (Nat → Int64) → Prop} (i1 : vp_in (z4 + 1) v46) (hb1 : 10 ≤ rc) (hb2 : 60 ≤ rs) {S M : List Nat} (hr : rowIs v0 v1 S) (hr2 : rowIs v20 v25 M) (hd : dRel S M)
    (hK : ∀ (rc' rs' : Nat) x_v19 x_v44, rc ≤ rc' + 10 → rs ≤ rs' + 60 → K rc' rs' x_v19 x_v44) :
    P_L_law_L385 z4 v0 v1 v20 v21 v22 v23 v24 v25 v40 v46 v47 K FU rc rs v19 v44 := by
  obtain ⟨f0, hf0⟩ : ∃ f0, FU = f0 + 1 := ⟨19999, rfl⟩
  rw [hf0]
  unfold P_L_law_L385
  refine ⟨i1, rc - 10, rs - 60, ⟨by omega, by omega⟩, ?_⟩
  unfold P_L_wordAt P_X8_wordAt P_X1_words
  have h60 := hr.2.1
  refine p_reqWordOf hr (fun j n e hn => ⟨in01, i1, p_xwordAt hr2 hd (fun j' n' e' hn' => ?_) (fun hb => absurd e (hb j (lt_at hn)))⟩) (fun hb => ⟨rfl, i1, p_xwordAt hr2 hd (fun j' n' e' hn' => absurd e' (hb j' (lt_at hn'))) (fun _ => finX (by decide) (hK _ _ _ _ (by omega) (by omega)))⟩)
  have en := at_u (by omega) (e.symm.trans e') hn hn'
  subst en
  exact fin0 (hK _ _ _ _ (by omega) (by omega))

theorem cs_440 {z4 : Int32} {v0 : Int32} {v1 : Nat → Int64} {v20 : Int32} {v21 : Int32} {v22 : Int32} {v23 : Int32} {v24 : Int32} {v25 : Nat → Int64} {v46 : Nat} {v47 : Nat → Int32} {v19 : Int32} {v44 : Nat → Int64} {rc rs : Nat} {K : Nat → Nat → Int32 → (Nat → Int64) → Prop} (i1 : vp_in (z4 + 1) v46) (i2 : vp_in (z4 + 2) v46) (hb1 : 10 ≤ rc) (hb2 : 60 ≤ rs) {S M : List Nat} (hr : rowIs v0 v1 S) (hr2 : rowIs v20 v25 M) (hd : dRel S M)
    (hK : ∀ (rc' rs' : Nat) x_v19 x_v44, rc ≤ rc' + 10 → rs ≤ rs' + 60 → K rc' rs' x_v19 x_v44) :
    P_L_law_L440 z4 v0 v1 v20 v21 v22 v23 v24 v25 v46 v47 K FU rc rs v19 v44 := by
  obtain ⟨f0, hf0⟩ : ∃ f0, FU = f0 + 1 := ⟨19999, rfl⟩
  rw [hf0]
  unfold P_L_law_L440
  have hmm : ∀ x, x ∈ M ↔ x ∈ S := fun x => hd.2.mem_iff
  refine ⟨i1, i2, rc - 10, rs - 60, ⟨by omega, by omega⟩, ?_⟩
  unfold P_L_hasWord
  refine p_chas hr hd.1 (fun n e hw hn => ⟨fun q => absurd q (by decide), fun _ => ⟨in01, i1, i2, p_xhas hr2 (dRel_W hd) (fun n' e' hw' hn' => ?_) (fun n' e' hw' hn' => ?_) (fun hb => absurd ⟨n, e, hw⟩ hb)⟩⟩) (fun n e hw hn => ⟨fun _ => ⟨in01, i1, i2, p_xhas hr2 (dRel_W hd) (fun n' e' hw' hn' => ?_) (fun n' e' hw' hn' => ?_) (fun hb => absurd ⟨n, e, hw⟩ hb)⟩, fun q => absurd rfl q⟩) (fun hb => ⟨rfl, i1, i2, p_xhas hr2 (dRel_W hd) (fun n' e' hw' hn' => absurd ⟨n', e', hw'⟩ hb) (fun n' e' hw' hn' => absurd ⟨n', e', hw'⟩ hb) (fun _ => finX (by decide) (hK _ _ _ _ (by omega) (by omega)))⟩)
  · exact finB (t := 1) (by omega) (hK _ _ _ _ (by omega) (by omega))
  · have en := lNu (e.symm.trans e') hw hw'
    subst en
    exact absurd ((hmm n).mpr hn) hn'
  · have en := lNu (e.symm.trans e') hw hw'
    subst en
    exact absurd ((hmm n).mp hn') hn
  · exact finB (t := 0) (by omega) (hK _ _ _ _ (by omega) (by omega))

theorem cs_535 {z4 : Int32} {v0 : Int32} {v1 : Nat → Int64} {v20 : Int32} {v21 : Int32} {v22 : Int32} {v24 : Int32} {v25 : Nat → Int64} {v46 : Nat} {v47 : Nat → Int32} {v2 : Int32} {v3 : Nat → Int64} {v4 : Nat → Int32} {v19 : Int32} {v23 : Int32} {v39 : Nat → Int32} {v40 : Nat → Int32} {v44 : Nat → Int64} {rc rs : Nat} {K : Nat → Nat → Int32 → (Nat → Int64) → (Nat → Int32) → Int32 → Int32 → (Nat → Int32) → (Nat → Int32) → (Nat → Int64) → Prop} (i1 : vp_in (z4 + 1) v46) (i2 : vp_in (z4 + 2) v46) (hb1 : 10 ≤ rc) (hb2 : 60 ≤ rs) {S M : List Nat} (hr : rowIs v0 v1 S) (hr2 : rowIs v20 v25 M) (hd : dRel S M)
    (hK : ∀ (rc' rs' : Nat) x_v2 x_v3 x_v4 x_v19 x_v23 x_v39 x_v40 x_v44, rc ≤ rc' + 10 → rs ≤ rs' + 60 → K rc' rs' x_v2 x_v3 x_v4 x_v19 x_v23 x_v39 x_v40 x_v44) :
    P_L_law_L535 z4 v0 v1 v20 v21 v22 v24 v25 v46 v47 K FU rc rs v2 v3 v4 v19 v23 v39 v40 v44 := by
  obtain ⟨f0, hf0⟩ : ∃ f0, FU = f0 + 1 := ⟨19999, rfl⟩
  rw [hf0]
  unfold P_L_law_L535
  refine ⟨i1, i2, rc - 10, rs - 60, ⟨by omega, by omega⟩, ?_⟩
  unfold P_L_anagramCount
  refine p_canaC hr hd.1 (fun n e hw a b d => ⟨in01, i1, i2, p_xcountQ (q := 2) (by omega) hr2 hd (fun n' e' hw' a' sp co => ?_) (fun hb => absurd ⟨n, e, hw⟩ hb)⟩) (fun hb => ⟨rfl, i1, i2, p_xcountQ (q := 2) (by omega) hr2 hd (fun n' e' hw' => absurd ⟨n', e', hw'⟩ hb) (fun _ a' sp co => finX (by decide) (hK _ _ _ _ _ _ _ _ _ _ (by omega) (by omega)))⟩)
  have en := lNu (e.symm.trans e') hw hw'
  subst en
  exact fin0 (hK _ _ _ _ _ _ _ _ _ _ (by omega) (by omega))

theorem cs_735 {z4 : Int32} {v0 : Int32} {v1 : Nat → Int64} {v20 : Int32} {v21 : Int32} {v22 : Int32} {v24 : Int32} {v25 : Nat → Int64} {v46 : Nat} {v47 : Nat → Int32} {v2 : Int32} {v3 : Nat → Int64} {v4 : Nat → Int32} {v19 : Int32} {v23 : Int32} {v39 : Nat → Int32} {v40 : Nat → Int32} {v44 : Nat → Int64} {rc rs : Nat} {K : Nat → Nat → Int32 → (Nat → Int64) → (Nat → Int32) → Int32 → Int32 → (Nat → Int32) → (Nat → Int32) → (Nat → Int64) → Prop} (i1 : vp_in (z4 + 1) v46) (i2 : vp_in (z4 + 2) v46) (hb1 : 10 ≤ rc) (hb2 : 60 ≤ rs) {S M : List Nat} (hr : rowIs v0 v1 S) (hr2 : rowIs v20 v25 M) (hd : dRel S M)
    (hK : ∀ (rc' rs' : Nat) x_v2 x_v3 x_v4 x_v19 x_v23 x_v39 x_v40 x_v44, rc ≤ rc' + 10 → rs ≤ rs' + 60 → K rc' rs' x_v2 x_v3 x_v4 x_v19 x_v23 x_v39 x_v40 x_v44) :
    P_L_law_L735 z4 v0 v1 v20 v21 v22 v24 v25 v46 v47 K FU rc rs v2 v3 v4 v19 v23 v39 v40 v44 := by
  obtain ⟨f0, hf0⟩ : ∃ f0, FU = f0 + 1 := ⟨19999, rfl⟩
  rw [hf0]
  unfold P_L_law_L735
  refine ⟨i1, i2, rc - 10, rs - 60, ⟨by omega, by omega⟩, ?_⟩
  unfold P_L_fittingCount
  refine p_cfitC hr hd.1 (fun n e hw a b d => ⟨in01, i1, i2, p_xcountQ (q := 1) (by omega) hr2 hd (fun n' e' hw' a' sp co => ?_) (fun hb => absurd ⟨n, e, hw⟩ hb)⟩) (fun hb => ⟨rfl, i1, i2, p_xcountQ (q := 1) (by omega) hr2 hd (fun n' e' hw' => absurd ⟨n', e', hw'⟩ hb) (fun _ a' sp co => finX (by decide) (hK _ _ _ _ _ _ _ _ _ _ (by omega) (by omega)))⟩)
  have en := lNu (e.symm.trans e') hw hw'
  subst en
  exact fin0 (hK _ _ _ _ _ _ _ _ _ _ (by omega) (by omega))

theorem cs_623 {z4 : Int32} {v0 : Int32} {v1 : Nat → Int64} {v20 : Int32} {v21 : Int32} {v22 : Int32} {v24 : Int32} {v25 : Nat → Int64} {v46 : Nat} {v47 : Nat → Int32} {v2 : Int32} {v3 : Nat → Int64} {v4 : Nat → Int32} {v19 : Int32} {v23 : Int32} {v39 : Nat → Int32} {v40 : Nat → Int32} {v44 : Nat → Int64} {rc rs : Nat} {K : Nat → Nat → Int32 → (Nat → Int64) → (Nat → Int32) → Int32 → Int32 → (Nat → Int32) → (Nat → Int32) → (Nat → Int64) → Prop} (i1 : vp_in (z4 + 1) v46) (i2 : vp_in (z4 + 2) v46) (i3 : vp_in (z4 + 3) v46) (hb1 : 10 ≤ rc) (hb2 : 60 ≤ rs) {S M : List Nat} (hr : rowIs v0 v1 S) (hr2 : rowIs v20 v25 M) (hd : dRel S M)
    (hK : ∀ (rc' rs' : Nat) x_v2 x_v3 x_v4 x_v19 x_v23 x_v39 x_v40 x_v44, rc ≤ rc' + 10 → rs ≤ rs' + 60 → K rc' rs' x_v2 x_v3 x_v4 x_v19 x_v23 x_v39 x_v40 x_v44) :
    P_L_law_L623 z4 v0 v1 v20 v21 v22 v24 v25 v46 v47 K FU rc rs v2 v3 v4 v19 v23 v39 v40 v44 := by
  obtain ⟨f0, hf0⟩ : ∃ f0, FU = f0 + 1 := ⟨19999, rfl⟩
  rw [hf0]
  unfold P_L_law_L623
  have h60 := hr.2.1
  refine ⟨i1, i2, i3, rc - 10, rs - 60, ⟨by omega, by omega⟩, ?_⟩
  unfold P_L_anagramAt
  refine p_canaA hr hd.1 (fun n j m e hw ez hm a b d => ⟨in01, i1, i2, i3, p_xfindQ (q := 2) (by omega) hr2 hd (fun n' j' m' e' hw' ez' hm' a' sp co => ?_) (fun n' e' hw' hno a' sp co => ?_) (fun hb => absurd ⟨n, e, hw⟩ hb)⟩) (fun n e hw hno a b d => Or.inr ⟨rfl, i1, i2, i3, p_xfindQ (q := 2) (by omega) hr2 hd (fun n' j' m' e' hw' ez' hm' a' sp co => ?_) (fun n' e' hw' hno' a' sp co => finX (by decide) (hK _ _ _ _ _ _ _ _ _ _ (by omega) (by omega))) (fun hb => absurd ⟨n, e, hw⟩ hb)⟩) (fun hb => Or.inl ⟨rfl, i1, i2, i3, p_xfindQ (q := 2) (by omega) hr2 hd (fun n' j' m' e' hw' => absurd ⟨n', e', hw'⟩ hb) (fun n' e' hw' => absurd ⟨n', e', hw'⟩ hb) (fun _ a' sp co => finX (by decide) (hK _ _ _ _ _ _ _ _ _ _ (by omega) (by omega)))⟩)
  · have en := lNu (e.symm.trans e') hw hw'
    subst en
    have em := at_u (by have := filt_len (q := askB n 2) h60; omega) (ez.symm.trans ez') hm hm'
    subst em
    exact fin0 (hK _ _ _ _ _ _ _ _ _ _ (by omega) (by omega))
  · have en := lNu (e.symm.trans e') hw hw'
    subst en
    exact absurd ez (hno j (lt_at hm))
  · have en := lNu (e.symm.trans e') hw hw'
    subst en
    exact absurd ez' (hno j' (lt_at hm'))

theorem cs_823 {z4 : Int32} {v0 : Int32} {v1 : Nat → Int64} {v20 : Int32} {v21 : Int32} {v22 : Int32} {v24 : Int32} {v25 : Nat → Int64} {v46 : Nat} {v47 : Nat → Int32} {v2 : Int32} {v3 : Nat → Int64} {v4 : Nat → Int32} {v19 : Int32} {v23 : Int32} {v39 : Nat → Int32} {v40 : Nat → Int32} {v44 : Nat → Int64} {rc rs : Nat} {K : Nat → Nat → Int32 → (Nat → Int64) → (Nat → Int32) → Int32 → Int32 → (Nat → Int32) → (Nat → Int32) → (Nat → Int64) → Prop} (i1 : vp_in (z4 + 1) v46) (i2 : vp_in (z4 + 2) v46) (i3 : vp_in (z4 + 3) v46) (hb1 : 10 ≤ rc) (hb2 : 60 ≤ rs) {S M : List Nat} (hr : rowIs v0 v1 S) (hr2 : rowIs v20 v25 M) (hd : dRel S M)
    (hK : ∀ (rc' rs' : Nat) x_v2 x_v3 x_v4 x_v19 x_v23 x_v39 x_v40 x_v44, rc ≤ rc' + 10 → rs ≤ rs' + 60 → K rc' rs' x_v2 x_v3 x_v4 x_v19 x_v23 x_v39 x_v40 x_v44) :
    P_L_law_L823 z4 v0 v1 v20 v21 v22 v24 v25 v46 v47 K FU rc rs v2 v3 v4 v19 v23 v39 v40 v44 := by
  obtain ⟨f0, hf0⟩ : ∃ f0, FU = f0 + 1 := ⟨19999, rfl⟩
  rw [hf0]
  unfold P_L_law_L823
  have h60 := hr.2.1
  refine ⟨i1, i2, i3, rc - 10, rs - 60, ⟨by omega, by omega⟩, ?_⟩
  unfold P_L_fittingWord
  refine p_cfitA hr hd.1 (fun n j m e hw ez hm a b d => ⟨in01, i1, i2, i3, p_xfindQ (q := 1) (by omega) hr2 hd (fun n' j' m' e' hw' ez' hm' a' sp co => ?_) (fun n' e' hw' hno a' sp co => ?_) (fun hb => absurd ⟨n, e, hw⟩ hb)⟩) (fun n e hw hno a b d => Or.inr ⟨rfl, i1, i2, i3, p_xfindQ (q := 1) (by omega) hr2 hd (fun n' j' m' e' hw' ez' hm' a' sp co => ?_) (fun n' e' hw' hno' a' sp co => finX (by decide) (hK _ _ _ _ _ _ _ _ _ _ (by omega) (by omega))) (fun hb => absurd ⟨n, e, hw⟩ hb)⟩) (fun hb => Or.inl ⟨rfl, i1, i2, i3, p_xfindQ (q := 1) (by omega) hr2 hd (fun n' j' m' e' hw' => absurd ⟨n', e', hw'⟩ hb) (fun n' e' hw' => absurd ⟨n', e', hw'⟩ hb) (fun _ a' sp co => finX (by decide) (hK _ _ _ _ _ _ _ _ _ _ (by omega) (by omega)))⟩)
  · have en := lNu (e.symm.trans e') hw hw'
    subst en
    have em := at_u (by have := filt_len (q := askB n 1) h60; omega) (ez.symm.trans ez') hm hm'
    subst em
    exact fin0 (hK _ _ _ _ _ _ _ _ _ _ (by omega) (by omega))
  · have en := lNu (e.symm.trans e') hw hw'
    subst en
    exact absurd ez (hno j (lt_at hm))
  · have en := lNu (e.symm.trans e') hw hw'
    subst en
    exact absurd ez' (hno j' (lt_at hm'))

theorem cs_1022 {z4 : Int32} {v5 : Nat → Int32} {v20 : Int32} {v21 : Int32} {v22 : Int32} {v23 : Int32} {v24 : Int32} {v26 : Nat → Int32} {v46 : Nat} {v47 : Nat → Int32} {v19 : Int32} {v44 : Nat → Int64} {rc rs : Nat} {K : Nat → Nat → Int32 → (Nat → Int64) → Prop} (i1 : vp_in (z4 + 1) v46) (hb1 : 10 ≤ rc) (hb2 : 60 ≤ rs) {u : Nat → Nat} (hu : invU u v5 v26)
    (hK : ∀ (rc' rs' : Nat) x_v19 x_v44, rc ≤ rc' + 10 → rs ≤ rs' + 60 → K rc' rs' x_v19 x_v44) :
    P_L_law_L1022 z4 v5 v20 v21 v22 v23 v24 v26 v46 v47 K FU rc rs v19 v44 := by
  obtain ⟨f0, hf0⟩ : ∃ f0, FU = f0 + 1 := ⟨19999, rfl⟩
  rw [hf0]
  unfold P_L_law_L1022
  refine ⟨i1, rc - 10, rs - 60, ⟨by omega, by omega⟩, ?_⟩
  unfold P_L_stockOf
  refine p_cstock (fun l a b e => ⟨in01, i1, p_xofL (fun l' a' b' e' => ?_) (fun hq => absurd ⟨l, a, b, e⟩ hq)⟩) (fun hq => ⟨rfl, i1, p_xofL (fun l' a' b' e' => absurd ⟨l', a', b', e'⟩ hq) (fun _ => finX (by decide) (hK _ _ _ _ (by omega) (by omega)))⟩)
  have en : l = l' := (neq (by omega) (by omega)).mp (e.symm.trans e')
  subst en
  rw [(hu.1 l a b).1, (hu.2.1 l a b).1]
  exact fin0 (hK _ _ _ _ (by omega) (by omega))

theorem cs_1159 {z4 : Int32} {v6 : Nat → Int32} {v20 : Int32} {v21 : Int32} {v22 : Int32} {v23 : Int32} {v24 : Int32} {v27 : Nat → Int32} {v46 : Nat} {v47 : Nat → Int32} {v19 : Int32} {v44 : Nat → Int64} {rc rs : Nat} {K : Nat → Nat → Int32 → (Nat → Int64) → Prop} (i1 : vp_in (z4 + 1) v46) (hb1 : 10 ≤ rc) (hb2 : 60 ≤ rs) {b : Nat → Nat} (hb : invB b v6 v27)
    (hK : ∀ (rc' rs' : Nat) x_v19 x_v44, rc ≤ rc' + 10 → rs ≤ rs' + 60 → K rc' rs' x_v19 x_v44) :
    P_L_law_L1159 z4 v6 v20 v21 v22 v23 v24 v27 v46 v47 K FU rc rs v19 v44 := by
  obtain ⟨f0, hf0⟩ : ∃ f0, FU = f0 + 1 := ⟨19999, rfl⟩
  rw [hf0]
  unfold P_L_law_L1159
  refine ⟨i1, rc - 10, rs - 60, ⟨by omega, by omega⟩, ?_⟩
  unfold P_L_basePriceOf
  refine p_cbase (fun l a b e => ⟨in01, i1, p_xofL (fun l' a' b' e' => ?_) (fun hq => absurd ⟨l, a, b, e⟩ hq)⟩) (fun hq => ⟨rfl, i1, p_xofL (fun l' a' b' e' => absurd ⟨l', a', b', e'⟩ hq) (fun _ => finX (by decide) (hK _ _ _ _ (by omega) (by omega)))⟩)
  have en : l = l' := (neq (by omega) (by omega)).mp (e.symm.trans e')
  subst en
  rw [(hb.1 l a b).1, (hb.2 l a b).1]
  exact fin0 (hK _ _ _ _ (by omega) (by omega))

theorem cs_2569 {z4 : Int32} {v8 : Int32} {v9 : Nat → Int32} {v20 : Int32} {v21 : Int32} {v22 : Int32} {v23 : Int32} {v24 : Int32} {v28 : Nat → Int32} {v46 : Nat} {v47 : Nat → Int32} {v19 : Int32} {v44 : Nat → Int64} {rc rs : Nat} {K : Nat → Nat → Int32 → (Nat → Int64) → Prop} (i1 : vp_in (z4 + 1) v46) (hb1 : 10 ≤ rc) (hb2 : 60 ≤ rs) (he : eqF v9 v28)
    (hK : ∀ (rc' rs' : Nat) x_v19 x_v44, rc ≤ rc' + 10 → rs ≤ rs' + 60 → K rc' rs' x_v19 x_v44) :
    P_L_law_L2569 z4 v8 v9 v20 v21 v22 v23 v24 v28 v46 v47 K FU rc rs v19 v44 := by
  obtain ⟨f0, hf0⟩ : ∃ f0, FU = f0 + 1 := ⟨19999, rfl⟩
  rw [hf0]
  unfold P_L_law_L2569
  refine ⟨i1, rc - 10, rs - 60, ⟨by omega, by omega⟩, ?_⟩
  unfold P_L_cameIn
  refine p_cstock (fun l a b e => ⟨in01, i1, p_xofL (fun l' a' b' e' => ?_) (fun hq => absurd ⟨l, a, b, e⟩ hq)⟩) (fun hq => ⟨rfl, i1, p_xofL (fun l' a' b' e' => absurd ⟨l', a', b', e'⟩ hq) (fun _ => finX (by decide) (hK _ _ _ _ (by omega) (by omega)))⟩)
  have en : l = l' := (neq (by omega) (by omega)).mp (e.symm.trans e')
  subst en
  rw [he l a b]
  exact fin0 (hK _ _ _ _ (by omega) (by omega))

theorem cs_2625 {z4 : Int32} {v8 : Int32} {v10 : Nat → Int32} {v20 : Int32} {v21 : Int32} {v22 : Int32} {v23 : Int32} {v24 : Int32} {v29 : Nat → Int32} {v46 : Nat} {v47 : Nat → Int32} {v19 : Int32} {v44 : Nat → Int64} {rc rs : Nat} {K : Nat → Nat → Int32 → (Nat → Int64) → Prop} (i1 : vp_in (z4 + 1) v46) (hb1 : 10 ≤ rc) (hb2 : 60 ≤ rs) (he : eqF v10 v29)
    (hK : ∀ (rc' rs' : Nat) x_v19 x_v44, rc ≤ rc' + 10 → rs ≤ rs' + 60 → K rc' rs' x_v19 x_v44) :
    P_L_law_L2625 z4 v8 v10 v20 v21 v22 v23 v24 v29 v46 v47 K FU rc rs v19 v44 := by
  obtain ⟨f0, hf0⟩ : ∃ f0, FU = f0 + 1 := ⟨19999, rfl⟩
  rw [hf0]
  unfold P_L_law_L2625
  refine ⟨i1, rc - 10, rs - 60, ⟨by omega, by omega⟩, ?_⟩
  unfold P_L_soldPieces
  refine p_cstock (fun l a b e => ⟨in01, i1, p_xofL (fun l' a' b' e' => ?_) (fun hq => absurd ⟨l, a, b, e⟩ hq)⟩) (fun hq => ⟨rfl, i1, p_xofL (fun l' a' b' e' => absurd ⟨l', a', b', e'⟩ hq) (fun _ => finX (by decide) (hK _ _ _ _ (by omega) (by omega)))⟩)
  have en : l = l' := (neq (by omega) (by omega)).mp (e.symm.trans e')
  subst en
  rw [he l a b]
  exact fin0 (hK _ _ _ _ (by omega) (by omega))

theorem cs_1215 {z4 : Int32} {v5 : Nat → Int32} {v6 : Nat → Int32} {v20 : Int32} {v21 : Int32} {v22 : Int32} {v23 : Int32} {v24 : Int32} {v26 : Nat → Int32} {v27 : Nat → Int32} {v46 : Nat} {v47 : Nat → Int32} {v19 : Int32} {v44 : Nat → Int64} {rc rs : Nat} {K : Nat → Nat → Int32 → (Nat → Int64) → Prop} (i1 : vp_in (z4 + 1) v46) (hb1 : 10 ≤ rc) (hb2 : 60 ≤ rs) {u : Nat → Nat} (hu : invU u v5 v26) {b : Nat → Nat} (hb : invB b v6 v27)
    (hK : ∀ (rc' rs' : Nat) x_v19 x_v44, rc ≤ rc' + 10 → rs ≤ rs' + 60 → K rc' rs' x_v19 x_v44) :
    P_L_law_L1215 z4 v5 v6 v20 v21 v22 v23 v24 v26 v27 v46 v47 K FU rc rs v19 v44 := by
  obtain ⟨f0, hf0⟩ : ∃ f0, FU = f0 + 1 := ⟨19999, rfl⟩
  rw [hf0]
  unfold P_L_law_L1215
  refine ⟨i1, rc - 10, rs - 60, ⟨by omega, by omega⟩, ?_⟩
  unfold P_L_presentPriceOf
  refine p_cpres hu.1 hb.1 (fun l a b e => ⟨in01, i1, p_xpres hu.2.1 hb.2 (fun l' a' b' e' => ?_) (fun hq => absurd ⟨l, a, b, e⟩ hq)⟩) (fun hq => ⟨rfl, i1, p_xpres hu.2.1 hb.2 (fun l' a' b' e' => absurd ⟨l', a', b', e'⟩ hq) (fun _ => finX (by decide) (hK _ _ _ _ (by omega) (by omega)))⟩)
  have en : l = l' := (neq (by omega) (by omega)).mp (e.symm.trans e')
  subst en
  
  exact fin0 (hK _ _ _ _ (by omega) (by omega))

theorem cs_1091 {z4 : Int32} {v20 : Int32} {v21 : Int32} {v22 : Int32} {v23 : Int32} {v24 : Int32} {v46 : Nat} {v47 : Nat → Int32} {v6 : Nat → Int32} {v19 : Int32} {v27 : Nat → Int32} {v44 : Nat → Int64} {rc rs : Nat} {K : Nat → Nat → (Nat → Int32) → Int32 → (Nat → Int32) → (Nat → Int64) → Prop} (i1 : vp_in (z4 + 1) v46) (i2 : vp_in (z4 + 2) v46) (hb1 : 10 ≤ rc) (hb2 : 60 ≤ rs) {b : Nat → Nat} (hb : invB b v6 v27)
    (hK : ∀ (rc' rs' : Nat) (b' : Nat → Nat) v6' x v27' w, rc ≤ rc' + 10 → rs ≤ rs' + 60 → invB b' v6' v27' → K rc' rs' v6' x v27' w) :
    P_L_law_L1091 z4 v20 v21 v22 v23 v24 v46 v47 K FU rc rs v6 v19 v27 v44 := by
  obtain ⟨f0, hf0⟩ : ∃ f0, FU = f0 + 1 := ⟨19999, rfl⟩
  rw [hf0]
  unfold P_L_law_L1091
  have up : ∀ (v : Nat → Int32) (l c : Nat), isB v b → 1 ≤ c → c ≤ 999 → isB (upd v l (nI c)) (fun x => if x = l then c else b x) := fun v l c hv h1 h2 x p q => by
    unfold upd
    dsimp only
    by_cases e : x = l
    · rw [if_pos e, if_pos e]; exact ⟨rfl, h1, by omega⟩
    · rw [if_neg e, if_neg e]; exact hv x p q
  refine ⟨i1, i2, rc - 10, rs - 60, ⟨by omega, by omega⟩, ?_⟩
  unfold P_L_setBasePrice
  refine p_cset (fun l c h1 h2 e h3 h4 ec => ⟨in01, i1, i2, p_xset (fun l' c' h1' h2' e' h3' h4' ec' => ?_) (fun hq => absurd ⟨⟨l, h1, h2, e⟩, ⟨c, h3, h4, ec⟩⟩ hq)⟩) (fun hq => ⟨rfl, i1, i2, p_xset (fun l' c' h1' h2' e' h3' h4' ec' => absurd ⟨⟨l', h1', h2', e'⟩, ⟨c', h3', h4', ec'⟩⟩ hq) (fun _ => finX (by decide) (hK _ _ b _ _ _ _ (by omega) (by omega) hb))⟩)
  have en : l = l' := (neq (by omega) (by omega)).mp (e.symm.trans e')
  subst en
  have ec2 : c = c' := (neq (by omega) (by omega)).mp (ec.symm.trans ec')
  subst ec2
  rw [(hb.1 l h1 h2).1, (hb.2 l h1 h2).1]
  exact fin0 (hK _ _ _ _ _ _ _ (by omega) (by omega) ⟨up v6 l c hb.1 h3 h4, up v27 l c hb.2 h3 h4⟩)

theorem cs_1271 {z4 : Int32} {v7 : Nat → Int32} {v20 : Int32} {v21 : Int32} {v22 : Int32} {v23 : Int32} {v24 : Int32} {v46 : Nat} {v47 : Nat → Int32} {v19 : Int32} {v44 : Nat → Int64} {rc rs : Nat} {K : Nat → Nat → Int32 → (Nat → Int64) → Prop} (i1 : vp_in (z4 + 1) v46) (i2 : vp_in (z4 + 2) v46) (hb1 : 10 ≤ rc) (hb2 : 60 ≤ rs) (ht : isWt v7)
    (hK : ∀ (rc' rs' : Nat) x_v19 x_v44, rc ≤ rc' + 10 → rs ≤ rs' + 60 → K rc' rs' x_v19 x_v44) :
    P_L_law_L1271 z4 v7 v20 v21 v22 v23 v24 v46 v47 K FU rc rs v19 v44 := by
  obtain ⟨f0, hf0⟩ : ∃ f0, FU = f0 + 1 := ⟨19999, rfl⟩
  rw [hf0]
  unfold P_L_law_L1271
  refine ⟨i1, i2, rc - 10, rs - 60, ⟨by omega, by omega⟩, ?_⟩
  unfold P_L_weightOf
  refine p_cwei ht (fun n e hw => ⟨in01, i1, i2, p_xwei (fun n' e' hw' => ?_) (fun hb => absurd ⟨n, e, hw⟩ hb)⟩) (fun hb => ⟨rfl, i1, i2, p_xwei (fun n' e' hw' => absurd ⟨n', e', hw'⟩ hb) (fun _ => finX (by decide) (hK _ _ _ _ (by omega) (by omega)))⟩)
  have en := lNu (e.symm.trans e') hw hw'
  subst en
  exact fin0 (hK _ _ _ _ (by omega) (by omega))

theorem cs_1359 {z4 : Int32} {v6 : Nat → Int32} {v7 : Nat → Int32} {v20 : Int32} {v21 : Int32} {v22 : Int32} {v24 : Int32} {v26 : Nat → Int32} {v27 : Nat → Int32} {v46 : Nat} {v47 : Nat → Int32} {v5 : Nat → Int32} {v19 : Int32} {v23 : Int32} {v39 : Nat → Int32} {v40 : Nat → Int32} {v41 : Nat → Int32} {v44 : Nat → Int64} {rc rs : Nat} {K : Nat → Nat → (Nat → Int32) → Int32 → Int32 → (Nat → Int32) → (Nat → Int32) → (Nat → Int32) → (Nat → Int64) → Prop} (i1 : vp_in (z4 + 1) v46) (i2 : vp_in (z4 + 2) v46) (hb1 : 10 ≤ rc) (hb2 : 60 ≤ rs) {u : Nat → Nat} (hu : invU u v5 v26) {b : Nat → Nat} (hb : invB b v6 v27) (ht : isWt v7)
    (hK : ∀ (rc' rs' : Nat) x_v19 x_v23 x_v39 x_v40 x_v41 x_v44, rc ≤ rc' + 10 → rs ≤ rs' + 60 → K rc' rs' v5 x_v19 x_v23 x_v39 x_v40 x_v41 x_v44) :
    P_L_law_L1359 z4 v6 v7 v20 v21 v22 v24 v26 v27 v46 v47 K FU rc rs v5 v19 v23 v39 v40 v41 v44 := by
  obtain ⟨f0, hf0⟩ : ∃ f0, FU = f0 + 1 := ⟨19999, rfl⟩
  rw [hf0]
  unfold P_L_law_L1359
  refine ⟨i1, i2, rc - 10, rs - 60, ⟨by omega, by omega⟩, ?_⟩
  unfold P_L_costOf
  refine p_ccost hu.1 hb.1 ht (fun n e hw ho => ⟨in01, i1, i2, p_xcostOf hu.2.1 hb.2 (fun n' e' hw' ho' a sp co w => ?_) (fun n' e' hw' ho' a sp co w => ?_) (fun hq => absurd ⟨n, e, hw⟩ hq)⟩) (fun n e hw ho => Or.inr ⟨rfl, i1, i2, p_xcostOf hu.2.1 hb.2 (fun n' e' hw' ho' a sp co w => ?_) (fun n' e' hw' ho' a sp co w => finX (by decide) (hK _ _ _ _ _ _ _ _ (by omega) (by omega))) (fun hq => absurd ⟨n, e, hw⟩ hq)⟩) (fun hq => Or.inl ⟨rfl, i1, i2, p_xcostOf hu.2.1 hb.2 (fun n' e' hw' => absurd ⟨n', e', hw'⟩ hq) (fun n' e' hw' => absurd ⟨n', e', hw'⟩ hq) (fun _ a sp co w => finX (by decide) (hK _ _ _ _ _ _ _ _ (by omega) (by omega)))⟩)
  · have en := lNu (e.symm.trans e') hw hw'
    subst en
    exact fin0 (hK _ _ _ _ _ _ _ _ (by omega) (by omega))
  · have en := lNu (e.symm.trans e') hw hw'
    subst en
    exact absurd ho ho'
  · have en := lNu (e.symm.trans e') hw hw'
    subst en
    exact absurd ho' ho

theorem cs_1447 {z4 : Int32} {v5 : Nat → Int32} {v20 : Int32} {v21 : Int32} {v22 : Int32} {v24 : Int32} {v26 : Nat → Int32} {v46 : Nat} {v47 : Nat → Int32} {v19 : Int32} {v23 : Int32} {v39 : Nat → Int32} {v40 : Nat → Int32} {v44 : Nat → Int64} {rc rs : Nat} {K : Nat → Nat → Int32 → Int32 → (Nat → Int32) → (Nat → Int32) → (Nat → Int64) → Prop} (i1 : vp_in (z4 + 1) v46) (i2 : vp_in (z4 + 2) v46) (hb1 : 10 ≤ rc) (hb2 : 60 ≤ rs) {u : Nat → Nat} (hu : invU u v5 v26)
    (hK : ∀ (rc' rs' : Nat) x_v19 x_v23 x_v39 x_v40 x_v44, rc ≤ rc' + 10 → rs ≤ rs' + 60 → K rc' rs' x_v19 x_v23 x_v39 x_v40 x_v44) :
    P_L_law_L1447 z4 v5 v20 v21 v22 v24 v26 v46 v47 K FU rc rs v19 v23 v39 v40 v44 := by
  obtain ⟨f0, hf0⟩ : ∃ f0, FU = f0 + 1 := ⟨19999, rfl⟩
  rw [hf0]
  unfold P_L_law_L1447
  refine ⟨i1, i2, rc - 10, rs - 60, ⟨by omega, by omega⟩, ?_⟩
  unfold P_L_missingLetter
  refine p_cmis hu.1 (fun n l e hw hm => ⟨in01, i1, i2, p_xmis hu.2.1 (fun n' l' e' hw' hm' a sp co => ?_) (fun n' e' hw' ho' a sp co => ?_) (fun hq => absurd ⟨n, e, hw⟩ hq)⟩) (fun n e hw ho => ⟨in01, i1, i2, p_xmis hu.2.1 (fun n' l' e' hw' hm' a sp co => ?_) (fun n' e' hw' ho' a sp co => fin0 (hK _ _ _ _ _ _ _ (by omega) (by omega))) (fun hq => absurd ⟨n, e, hw⟩ hq)⟩) (fun hq => ⟨rfl, i1, i2, p_xmis hu.2.1 (fun n' l' e' hw' => absurd ⟨n', e', hw'⟩ hq) (fun n' e' hw' => absurd ⟨n', e', hw'⟩ hq) (fun _ a sp co => finX (by decide) (hK _ _ _ _ _ _ _ (by omega) (by omega)))⟩)
  · have en := lNu (e.symm.trans e') hw hw'
    subst en
    have el := missAt_one hm hm'
    subst el
    exact fin0 (hK _ _ _ _ _ _ _ (by omega) (by omega))
  · have en := lNu (e.symm.trans e') hw hw'
    subst en
    exact absurd ho' (missAt_no hm)
  · have en := lNu (e.symm.trans e') hw hw'
    subst en
    exact absurd ho (missAt_no hm')

theorem cs_1535 {z4 : Int32} {v0 : Int32} {v1 : Nat → Int64} {v6 : Nat → Int32} {v7 : Nat → Int32} {v20 : Int32} {v21 : Int32} {v22 : Int32} {v24 : Int32} {v25 : Nat → Int64} {v26 : Nat → Int32} {v27 : Nat → Int32} {v46 : Nat} {v47 : Nat → Int32} {v5 : Nat → Int32} {v19 : Int32} {v23 : Int32} {v39 : Nat → Int32} {v40 : Nat → Int32} {v41 : Nat → Int32} {v44 : Nat → Int64} {rc rs : Nat} {K : Nat → Nat → (Nat → Int32) → Int32 → Int32 → (Nat → Int32) → (Nat → Int32) → (Nat → Int32) → (Nat → Int64) → Prop} (i1 : vp_in (z4 + 1) v46) (i2 : vp_in (z4 + 2) v46) (i3 : vp_in (z4 + 3) v46) (hb1 : 10 ≤ rc) (hb2 : 60 ≤ rs) {S M : List Nat} (hr : rowIs v0 v1 S) (hr2 : rowIs v20 v25 M) (hd : dRel S M) {u : Nat → Nat} (hu : invU u v5 v26) {b : Nat → Nat} (hb : invB b v6 v27) (ht : isWt v7)
    (hK : ∀ (rc' rs' : Nat) x_v19 x_v23 x_v39 x_v40 x_v41 x_v44, rc ≤ rc' + 10 → rs ≤ rs' + 60 → K rc' rs' v5 x_v19 x_v23 x_v39 x_v40 x_v41 x_v44) :
    P_L_law_L1535 z4 v0 v1 v6 v7 v20 v21 v22 v24 v25 v26 v27 v46 v47 K FU rc rs v5 v19 v23 v39 v40 v41 v44 := by
  obtain ⟨f0, hf0⟩ : ∃ f0, FU = f0 + 1 := ⟨19999, rfl⟩
  rw [hf0]
  unfold P_L_law_L1535
  refine ⟨i1, i2, i3, rc - 10, rs - 60, ⟨by omega, by omega⟩, ?_⟩
  unfold P_L_refusalOf
  refine p_crefO hr hd.1 hu.1 hb.1 ht (fun n B e hw ez hB => ⟨in01, i1, i2, i3, p_xrefO hr2 hd hu.2.1 hb.2 (fun n' B' e' hw' ez' hB' a sp co w => ?_) (fun hq => absurd ⟨⟨n, e, hw⟩, ⟨B, Nat.zero_le _, hB, ez⟩⟩ hq)⟩) (fun hq => ⟨rfl, i1, i2, i3, p_xrefO hr2 hd hu.2.1 hb.2 (fun n' B' e' hw' ez' hB' => absurd ⟨⟨n', e', hw'⟩, ⟨B', Nat.zero_le _, hB', ez'⟩⟩ hq) (fun _ a sp co w => finX (by decide) (hK _ _ _ _ _ _ _ _ (by omega) (by omega)))⟩)
  have en := lNu (e.symm.trans e') hw hw'
  subst en
  have eB : B = B' := (neq (by omega) (by omega)).mp (ez.symm.trans ez')
  subst eB
  exact fin0 (hK _ _ _ _ _ _ _ _ (by omega) (by omega))

theorem cs_1735 {z4 : Int32} {v0 : Int32} {v1 : Nat → Int64} {v6 : Nat → Int32} {v7 : Nat → Int32} {v20 : Int32} {v21 : Int32} {v22 : Int32} {v24 : Int32} {v25 : Nat → Int64} {v26 : Nat → Int32} {v27 : Nat → Int32} {v46 : Nat} {v47 : Nat → Int32} {v5 : Nat → Int32} {v19 : Int32} {v23 : Int32} {v39 : Nat → Int32} {v40 : Nat → Int32} {v41 : Nat → Int32} {v44 : Nat → Int64} {rc rs : Nat} {K : Nat → Nat → (Nat → Int32) → Int32 → Int32 → (Nat → Int32) → (Nat → Int32) → (Nat → Int32) → (Nat → Int64) → Prop} (i1 : vp_in (z4 + 1) v46) (hb1 : 10 ≤ rc) (hb2 : 60 ≤ rs) {S M : List Nat} (hr : rowIs v0 v1 S) (hr2 : rowIs v20 v25 M) (hd : dRel S M) {u : Nat → Nat} (hu : invU u v5 v26) {b : Nat → Nat} (hb : invB b v6 v27) (ht : isWt v7)
    (hK : ∀ (rc' rs' : Nat) x_v19 x_v23 x_v39 x_v40 x_v41 x_v44, rc ≤ rc' + 10 → rs ≤ rs' + 60 → K rc' rs' v5 x_v19 x_v23 x_v39 x_v40 x_v41 x_v44) :
    P_L_law_L1735 z4 v0 v1 v6 v7 v20 v21 v22 v24 v25 v26 v27 v46 v47 K FU rc rs v5 v19 v23 v39 v40 v41 v44 := by
  obtain ⟨f0, hf0⟩ : ∃ f0, FU = f0 + 1 := ⟨19999, rfl⟩
  rw [hf0]
  unfold P_L_law_L1735
  refine ⟨i1, rc - 10, rs - 60, ⟨by omega, by omega⟩, ?_⟩
  unfold P_L_affordableWords
  refine p_caff hr hd.1.1 hu.1 hb.1 ht (fun B ez hB => ⟨in01, i1, p_xaff hr2 hd hu.2.1 hb.2 (fun B' ez' hB' a sp co w => ?_) (fun hq => absurd ⟨B, Nat.zero_le _, hB, ez⟩ hq)⟩) (fun hq => ⟨rfl, i1, p_xaff hr2 hd hu.2.1 hb.2 (fun B' ez' hB' => absurd ⟨B', Nat.zero_le _, hB', ez'⟩ hq) (fun _ a sp co w => finX (by decide) (hK _ _ _ _ _ _ _ _ (by omega) (by omega)))⟩)
  have eB : B = B' := (neq (by omega) (by omega)).mp (ez.symm.trans ez')
  subst eB
  exact fin0 (hK _ _ _ _ _ _ _ _ (by omega) (by omega))

theorem cs_1791 {z4 : Int32} {v0 : Int32} {v1 : Nat → Int64} {v6 : Nat → Int32} {v7 : Nat → Int32} {v20 : Int32} {v21 : Int32} {v22 : Int32} {v24 : Int32} {v25 : Nat → Int64} {v26 : Nat → Int32} {v27 : Nat → Int32} {v46 : Nat} {v47 : Nat → Int32} {v5 : Nat → Int32} {v19 : Int32} {v23 : Int32} {v39 : Nat → Int32} {v40 : Nat → Int32} {v41 : Nat → Int32} {v44 : Nat → Int64} {rc rs : Nat} {K : Nat → Nat → (Nat → Int32) → Int32 → Int32 → (Nat → Int32) → (Nat → Int32) → (Nat → Int32) → (Nat → Int64) → Prop} (i1 : vp_in (z4 + 1) v46) (hb1 : 10 ≤ rc) (hb2 : 60 ≤ rs) {S M : List Nat} (hr : rowIs v0 v1 S) (hr2 : rowIs v20 v25 M) (hd : dRel S M) {u : Nat → Nat} (hu : invU u v5 v26) {b : Nat → Nat} (hb : invB b v6 v27) (ht : isWt v7)
    (hK : ∀ (rc' rs' : Nat) x_v19 x_v23 x_v39 x_v40 x_v41 x_v44, rc ≤ rc' + 10 → rs ≤ rs' + 60 → K rc' rs' v5 x_v19 x_v23 x_v39 x_v40 x_v41 x_v44) :
    P_L_law_L1791 z4 v0 v1 v6 v7 v20 v21 v22 v24 v25 v26 v27 v46 v47 K FU rc rs v5 v19 v23 v39 v40 v41 v44 := by
  obtain ⟨f0, hf0⟩ : ∃ f0, FU = f0 + 1 := ⟨19999, rfl⟩
  rw [hf0]
  unfold P_L_law_L1791
  refine ⟨i1, rc - 10, rs - 60, ⟨by omega, by omega⟩, ?_⟩
  unfold P_L_bestWord
  refine p_cbestW hr hd.1 hu.1 hb.1 ht (fun B x ez hB hx => ⟨in01, i1, p_xbestW hr2 hd hu.2.1 hb.2 (fun B' x' ez' hB' hx' a sp co w => ?_) (fun hq => absurd ⟨B, Nat.zero_le _, hB, ez⟩ hq)⟩) (fun hq => ⟨rfl, i1, p_xbestW hr2 hd hu.2.1 hb.2 (fun B' x' ez' hB' hx' => absurd ⟨B', Nat.zero_le _, hB', ez'⟩ hq) (fun _ a sp co w => finX (by decide) (hK _ _ _ _ _ _ _ _ (by omega) (by omega)))⟩)
  have eB : B = B' := (neq (by omega) (by omega)).mp (ez.symm.trans ez')
  subst eB
  have ex := best_one hx hx'
  subst ex
  exact fin0 (hK _ _ _ _ _ _ _ _ (by omega) (by omega))

theorem cs_922 {z4 : Int32} {v8 : Int32} {v20 : Int32} {v21 : Int32} {v22 : Int32} {v24 : Int32} {v46 : Nat} {v47 : Nat → Int32} {v5 : Nat → Int32} {v9 : Nat → Int32} {v18 : Nat → Int32} {v19 : Int32} {v23 : Int32} {v26 : Nat → Int32} {v28 : Nat → Int32} {v39 : Nat → Int32} {v40 : Nat → Int32} {v44 : Nat → Int64} {rc rs : Nat} {K : Nat → Nat → (Nat → Int32) → (Nat → Int32) → (Nat → Int32) → Int32 → Int32 → (Nat → Int32) → (Nat → Int32) → (Nat → Int32) → (Nat → Int32) → (Nat → Int64) → Prop} (i1 : vp_in (z4 + 1) v46) (i2 : vp_in (z4 + 2) v46) (i3 : vp_in (z4 + 3) v46) (hb1 : 10 ≤ rc) (hb2 : 60 ≤ rs) {u : Nat → Nat} (hu : invU u v5 v26) (he : eqF v9 v28)
    (hK : ∀ (rc' rs' : Nat) (u' : Nat → Nat) v5' v9' v18' x y v26' v28' a b w, rc ≤ rc' + 10 → rs ≤ rs' + 60 → invU u' v5' v26' → eqF v9' v28' → K rc' rs' v5' v9' v18' x y v26' v28' a b w) :
    P_L_law_L922 z4 v8 v20 v21 v22 v24 v46 v47 K FU rc rs v5 v9 v18 v19 v23 v26 v28 v39 v40 v44 := by
  obtain ⟨f0, hf0⟩ : ∃ f0, FU = f0 + 1 := ⟨19999, rfl⟩
  rw [hf0]
  unfold P_L_law_L922
  refine ⟨i1, i2, i3, rc - 10, rs - 60, ⟨by omega, by omega⟩, ?_⟩
  unfold P_L_cut
  refine p_ccut hu.1 (fun n c e hw ez h1 h2 hro inc hinc => ⟨in01, i1, i2, i3, p_xcut hu.2.1 (fun n' c' e' hw' ez' h1' h2' hro' a sp co hco => ?_) (fun n' c' e' hw' ez' h1' h2' hro' a sp co => ?_) (fun hq => absurd ⟨⟨n, e, hw⟩, ⟨c, h1, h2, ez⟩⟩ hq)⟩) (fun n c e hw ez h1 h2 hro inc => Or.inr ⟨rfl, i1, i2, i3, p_xcut hu.2.1 (fun n' c' e' hw' ez' h1' h2' hro' a sp co hco => ?_) (fun n' c' e' hw' ez' h1' h2' hro' a sp co => finX (by decide) (hK _ _ u _ _ _ _ _ _ _ _ _ _ (by omega) (by omega) hu he)) (fun hq => absurd ⟨⟨n, e, hw⟩, ⟨c, h1, h2, ez⟩⟩ hq)⟩) (fun hq => Or.inl ⟨rfl, i1, i2, i3, p_xcut hu.2.1 (fun n' c' e' hw' ez' h1' h2' => absurd ⟨⟨n', e', hw'⟩, ⟨c', h1', h2', ez'⟩⟩ hq) (fun n' c' e' hw' ez' h1' h2' => absurd ⟨⟨n', e', hw'⟩, ⟨c', h1', h2', ez'⟩⟩ hq) (fun _ a sp co => finX (by decide) (hK _ _ u _ _ _ _ _ _ _ _ _ _ (by omega) (by omega) hu he))⟩)
  · have en := lNu (e.symm.trans e') hw hw'
    subst en
    have ecc : c = c' := (neq (by omega) (by omega)).mp (ez.symm.trans ez')
    subst ecc
    have g1 := isU_add (w := padF v5 inc 26) hu.1 hro (fun l a b => by rw [padF_in a b, (hinc l a b).1])
    have g2 := isU_add (w := padF v26 (fun l => nI c * co l) 26) hu.2.1 hro (fun l a b => by rw [padF_in a b, hco l b, nI_mul])
    rw [ez]
    have es : sumI (padF v26 (fun l => nI c * co l) 26) 26 = sumI (padF v5 inc 26) 26 := sumI_ext 26 (fun l a b => by rw [(g1 l a b).1, (g2 l a b).1])
    rw [es]
    exact fin0 (hK _ _ _ _ _ _ _ _ _ _ _ _ _ (by omega) (by omega) ⟨g1, g2, hro⟩ (fun l a b => by rw [padF_in a b, padF_in a b, he l a b, (hinc l a b).1, hco l b, nI_mul]))
  · have en := lNu (e.symm.trans e') hw hw'
    subst en
    have ecc : c = c' := (neq (by omega) (by omega)).mp (ez.symm.trans ez')
    subst ecc
    exact absurd hro hro'
  · have en := lNu (e.symm.trans e') hw hw'
    subst en
    have ecc : c = c' := (neq (by omega) (by omega)).mp (ez.symm.trans ez')
    subst ecc
    exact absurd hro' hro

theorem cs_1902 {z4 : Int32} {v0 : Int32} {v1 : Nat → Int64} {v20 : Int32} {v21 : Int32} {v22 : Int32} {v25 : Nat → Int64} {v46 : Nat} {v47 : Nat → Int32} {v2 : Int32} {v3 : Nat → Int64} {v4 : Nat → Int32} {v11 : Int32} {v12 : Int32} {v13 : Nat → Int32} {v14 : Int32} {v15 : Nat → Int64} {v16 : Int32} {v17 : Nat → Int64} {v19 : Int32} {v23 : Int32} {v24 : Int32} {v39 : Nat → Int32} {v40 : Nat → Int32} {v41 : Nat → Int32} {v42 : Nat → Int32} {v43 : Nat → Int32} {v44 : Nat → Int64} {rc rs : Nat} {K : Nat → Nat → Int32 → (Nat → Int64) → (Nat → Int32) → Int32 → Int32 → (Nat → Int32) → Int32 → (Nat → Int64) → Int32 → (Nat → Int64) → Int32 → Int32 → Int32 → (Nat → Int32) → (Nat → Int32) → (Nat → Int32) → (Nat → Int32) → (Nat → Int32) → (Nat → Int64) → Prop} (i1 : vp_in (z4 + 1) v46) (i2 : vp_in (z4 + 2) v46) (i3 : vp_in (z4 + 3) v46) (hb1 : 10 ≤ rc) (hb2 : 60 ≤ rs) {S M : List Nat} (hr : rowIs v0 v1 S) (hr2 : rowIs v20 v25 M) (hd : dRel S M) (h14 : rowIs v14 v15 [])
    (hK : ∀ (rc' rs' : Nat) x_v2 x_v3 x_v4 x_v11 x_v12 x_v13 x_v14 x_v15 x_v16 x_v17 x_v19 x_v23 x_v24 x_v39 x_v40 x_v41 x_v42 x_v43 x_v44, rc ≤ rc' + 10 → rs ≤ rs' + 60 → rowIs x_v14 x_v15 [] → K rc' rs' x_v2 x_v3 x_v4 x_v11 x_v12 x_v13 x_v14 x_v15 x_v16 x_v17 x_v19 x_v23 x_v24 x_v39 x_v40 x_v41 x_v42 x_v43 x_v44) :
    P_L_law_L1902 z4 v0 v1 v20 v21 v22 v25 v46 v47 K FU rc rs v2 v3 v4 v11 v12 v13 v14 v15 v16 v17 v19 v23 v24 v39 v40 v41 v42 v43 v44 := by
  obtain ⟨f0, hf0⟩ : ∃ f0, FU = f0 + 1 := ⟨19999, rfl⟩
  rw [hf0]
  unfold P_L_law_L1902
  refine ⟨i1, i2, i3, rc - 10, rs - 60, ⟨by omega, by omega⟩, ?_⟩
  unfold P_L_planLength
  refine p_cpl hr hd.1 h14 (fun n k e hw ez h1 h2 c1 f1 w4 a b left c2 f2 c3 f3 h3 => ⟨in01, i1, i2, i3, p_xpl hr2 hd (fun n' k' e' hw' ez' h1' h2' a' b' sp co w o pl => ?_) (fun hq => absurd ⟨⟨n, e, hw⟩, ⟨k, h1, h2, ez⟩⟩ hq)⟩) (fun hq => ⟨rfl, i1, i2, i3, p_xpl hr2 hd (fun n' k' e' hw' ez' h1' h2' => absurd ⟨⟨n', e', hw'⟩, ⟨k', h1', h2', ez'⟩⟩ hq) (fun _ => finX (by decide) (hK _ _ _ _ _ _ _ _ _ _ _ _ _ _ _ _ _ _ _ _ _ (by omega) (by omega) h14))⟩)
  have en := lNu (e.symm.trans e') hw hw'
  subst en
  have ek : k = k' := (neq (by omega) (by omega)).mp (ez.symm.trans ez')
  subst ek
  exact fin0 (hK _ _ _ _ _ _ _ _ _ _ _ _ _ _ _ _ _ _ _ _ _ (by omega) (by omega) h3)

theorem cs_2113 {z4 : Int32} {v0 : Int32} {v1 : Nat → Int64} {v20 : Int32} {v21 : Int32} {v22 : Int32} {v25 : Nat → Int64} {v46 : Nat} {v47 : Nat → Int32} {v2 : Int32} {v3 : Nat → Int64} {v4 : Nat → Int32} {v11 : Int32} {v12 : Int32} {v13 : Nat → Int32} {v14 : Int32} {v15 : Nat → Int64} {v16 : Int32} {v17 : Nat → Int64} {v19 : Int32} {v23 : Int32} {v24 : Int32} {v39 : Nat → Int32} {v40 : Nat → Int32} {v41 : Nat → Int32} {v42 : Nat → Int32} {v43 : Nat → Int32} {v44 : Nat → Int64} {rc rs : Nat} {K : Nat → Nat → Int32 → (Nat → Int64) → (Nat → Int32) → Int32 → Int32 → (Nat → Int32) → Int32 → (Nat → Int64) → Int32 → (Nat → Int64) → Int32 → Int32 → Int32 → (Nat → Int32) → (Nat → Int32) → (Nat → Int32) → (Nat → Int32) → (Nat → Int32) → (Nat → Int64) → Prop} (i1 : vp_in (z4 + 1) v46) (i2 : vp_in (z4 + 2) v46) (i3 : vp_in (z4 + 3) v46) (hb1 : 10 ≤ rc) (hb2 : 60 ≤ rs) {S M : List Nat} (hr : rowIs v0 v1 S) (hr2 : rowIs v20 v25 M) (hd : dRel S M) (h14 : rowIs v14 v15 [])
    (hK : ∀ (rc' rs' : Nat) x_v2 x_v3 x_v4 x_v11 x_v12 x_v13 x_v14 x_v15 x_v16 x_v17 x_v19 x_v23 x_v24 x_v39 x_v40 x_v41 x_v42 x_v43 x_v44, rc ≤ rc' + 10 → rs ≤ rs' + 60 → rowIs x_v14 x_v15 [] → K rc' rs' x_v2 x_v3 x_v4 x_v11 x_v12 x_v13 x_v14 x_v15 x_v16 x_v17 x_v19 x_v23 x_v24 x_v39 x_v40 x_v41 x_v42 x_v43 x_v44) :
    P_L_law_L2113 z4 v0 v1 v20 v21 v22 v25 v46 v47 K FU rc rs v2 v3 v4 v11 v12 v13 v14 v15 v16 v17 v19 v23 v24 v39 v40 v41 v42 v43 v44 := by
  obtain ⟨f0, hf0⟩ : ∃ f0, FU = f0 + 1 := ⟨19999, rfl⟩
  rw [hf0]
  unfold P_L_law_L2113
  refine ⟨i1, i2, i3, rc - 10, rs - 60, ⟨by omega, by omega⟩, ?_⟩
  unfold P_L_leftoverCount
  refine p_clo hr hd.1 h14 (fun n k e hw ez h1 h2 c1 f1 w4 a b left c2 f2 c3 f3 h3 => ⟨in01, i1, i2, i3, p_xlo hr2 hd (fun n' k' e' hw' ez' h1' h2' a' b' sp co w o pl => ?_) (fun hq => absurd ⟨⟨n, e, hw⟩, ⟨k, h1, h2, ez⟩⟩ hq)⟩) (fun hq => ⟨rfl, i1, i2, i3, p_xlo hr2 hd (fun n' k' e' hw' ez' h1' h2' => absurd ⟨⟨n', e', hw'⟩, ⟨k', h1', h2', ez'⟩⟩ hq) (fun _ => finX (by decide) (hK _ _ _ _ _ _ _ _ _ _ _ _ _ _ _ _ _ _ _ _ _ (by omega) (by omega) h14))⟩)
  have en := lNu (e.symm.trans e') hw hw'
  subst en
  have ek : k = k' := (neq (by omega) (by omega)).mp (ez.symm.trans ez')
  subst ek
  exact fin0 (hK _ _ _ _ _ _ _ _ _ _ _ _ _ _ _ _ _ _ _ _ _ (by omega) (by omega) h3)

theorem cs_2002 {z4 : Int32} {v0 : Int32} {v1 : Nat → Int64} {v20 : Int32} {v21 : Int32} {v22 : Int32} {v25 : Nat → Int64} {v46 : Nat} {v47 : Nat → Int32} {v2 : Int32} {v3 : Nat → Int64} {v4 : Nat → Int32} {v11 : Int32} {v12 : Int32} {v13 : Nat → Int32} {v14 : Int32} {v15 : Nat → Int64} {v16 : Int32} {v17 : Nat → Int64} {v19 : Int32} {v23 : Int32} {v24 : Int32} {v39 : Nat → Int32} {v40 : Nat → Int32} {v41 : Nat → Int32} {v42 : Nat → Int32} {v43 : Nat → Int32} {v44 : Nat → Int64} {rc rs : Nat} {K : Nat → Nat → Int32 → (Nat → Int64) → (Nat → Int32) → Int32 → Int32 → (Nat → Int32) → Int32 → (Nat → Int64) → Int32 → (Nat → Int64) → Int32 → Int32 → Int32 → (Nat → Int32) → (Nat → Int32) → (Nat → Int32) → (Nat → Int32) → (Nat → Int32) → (Nat → Int64) → Prop} (i1 : vp_in (z4 + 1) v46) (i2 : vp_in (z4 + 2) v46) (i3 : vp_in (z4 + 3) v46) (i4 : vp_in (z4 + 4) v46) (hb1 : 10 ≤ rc) (hb2 : 60 ≤ rs) {S M : List Nat} (hr : rowIs v0 v1 S) (hr2 : rowIs v20 v25 M) (hd : dRel S M) (h14 : rowIs v14 v15 [])
    (hK : ∀ (rc' rs' : Nat) x_v2 x_v3 x_v4 x_v11 x_v12 x_v13 x_v14 x_v15 x_v16 x_v17 x_v19 x_v23 x_v24 x_v39 x_v40 x_v41 x_v42 x_v43 x_v44, rc ≤ rc' + 10 → rs ≤ rs' + 60 → rowIs x_v14 x_v15 [] → K rc' rs' x_v2 x_v3 x_v4 x_v11 x_v12 x_v13 x_v14 x_v15 x_v16 x_v17 x_v19 x_v23 x_v24 x_v39 x_v40 x_v41 x_v42 x_v43 x_v44) :
    P_L_law_L2002 z4 v0 v1 v20 v21 v22 v25 v46 v47 K FU rc rs v2 v3 v4 v11 v12 v13 v14 v15 v16 v17 v19 v23 v24 v39 v40 v41 v42 v43 v44 := by
  obtain ⟨f0, hf0⟩ : ∃ f0, FU = f0 + 1 := ⟨19999, rfl⟩
  rw [hf0]
  unfold P_L_law_L2002
  refine ⟨i1, i2, i3, i4, rc - 10, rs - 60, ⟨by omega, by omega⟩, ?_⟩
  unfold P_L_planWord
  refine p_cpw hr hd.1 h14 (fun n k j m e hw ez h1 h2 ei hm c1 f1 w4 a b left c2 f2 c3 f3 h3 => ⟨in01, i1, i2, i3, i4, p_xpw hr2 hd (fun n' k' j' m' e' hw' ez' h1' h2' ei' hm' a' b' sp co w o pl => ?_) (fun n' k' e' hw' ez' h1' h2' hno a' b' sp co w o pl => ?_) (fun hq => absurd ⟨⟨n, e, hw⟩, ⟨k, h1, h2, ez⟩⟩ hq)⟩) (fun n k e hw ez h1 h2 hno c1 f1 w4 a b left c2 f2 c3 f3 h3 => Or.inr ⟨rfl, i1, i2, i3, i4, p_xpw hr2 hd (fun n' k' j' m' e' hw' ez' h1' h2' ei' hm' a' b' sp co w o pl => ?_) (fun n' k' e' hw' ez' h1' h2' hno' a' b' sp co w o pl => finX (by decide) (hK _ _ _ _ _ _ _ _ _ _ _ _ _ _ _ _ _ _ _ _ _ (by omega) (by omega) h3)) (fun hq => absurd ⟨⟨n, e, hw⟩, ⟨k, h1, h2, ez⟩⟩ hq)⟩) (fun hq => Or.inl ⟨rfl, i1, i2, i3, i4, p_xpw hr2 hd (fun n' k' j' m' e' hw' ez' h1' h2' => absurd ⟨⟨n', e', hw'⟩, ⟨k', h1', h2', ez'⟩⟩ hq) (fun n' k' e' hw' ez' h1' h2' => absurd ⟨⟨n', e', hw'⟩, ⟨k', h1', h2', ez'⟩⟩ hq) (fun _ => finX (by decide) (hK _ _ _ _ _ _ _ _ _ _ _ _ _ _ _ _ _ _ _ _ _ (by omega) (by omega) h14))⟩)
  · have en := lNu (e.symm.trans e') hw hw'
    subst en
    have ek : k = k' := (neq (by omega) (by omega)).mp (ez.symm.trans ez')
    subst ek
    have em := at_u (by have := (plP_ok S n k).2.2.1; omega) (ei.symm.trans ei') hm hm'
    subst em
    exact fin0 (hK _ _ _ _ _ _ _ _ _ _ _ _ _ _ _ _ _ _ _ _ _ (by omega) (by omega) h3)
  · have en := lNu (e.symm.trans e') hw hw'
    subst en
    have ek : k = k' := (neq (by omega) (by omega)).mp (ez.symm.trans ez')
    subst ek
    exact absurd ei (hno j (lt_at hm))
  · have en := lNu (e.symm.trans e') hw hw'
    subst en
    have ek : k = k' := (neq (by omega) (by omega)).mp (ez.symm.trans ez')
    subst ek
    exact absurd ei' (hno j' (lt_at hm'))

theorem cs_2326 {z4 : Int32} {v8 : Int32} {v20 : Int32} {v21 : Int32} {v22 : Int32} {v23 : Int32} {v24 : Int32} {v30 : Nat} {v31 : Nat} {v32 : Nat → Int64} {v45 : ZL} {v46 : Nat} {v47 : Nat → Int32} {v19 : Int32} {v44 : Nat → Int64} {rc rs : Nat} {K : Nat → Nat → Int32 → (Nat → Int64) → Prop} (i1 : vp_in (z4 + 1) v46) (hb1 : 10 ≤ rc) (hb2 : 60 ≤ rs) {R : List (Nat × Nat × Nat)} {N : Nat} {v34 : Nat} {v35 : Nat → Int32} {v37 : Nat} {v38 : Nat → Int32} (hR : invR R N v45 v21 v31 v32 v34 v35 v37 v38)
    (hK : ∀ (rc' rs' : Nat) x_v19 x_v44, rc ≤ rc' + 10 → rs ≤ rs' + 60 → K rc' rs' x_v19 x_v44) :
    P_L_law_L2326 z4 v8 v20 v21 v22 v23 v24 v30 v31 v32 v45 v46 v47 K FU rc rs v19 v44 := by
  obtain ⟨f0, hf0⟩ : ∃ f0, FU = f0 + 1 := ⟨19999, rfl⟩
  rw [hf0]
  unfold P_L_law_L2326
  obtain ⟨hz, hc, hok, hN, rfl, e34, e37, hX⟩ := hR
  subst e34 e37
  refine ⟨i1, rc - 10, rs - 60, ⟨by omega, by omega⟩, ?_⟩
  unfold P_L_receiptWord
  refine p_crw hz hc hok (fun j r e hr => ⟨in01, i1, p_xrw hX hN hok (fun j' r' e' hr' => ?_) (fun hno => absurd e (hno j (lt_at hr)))⟩) (fun hno => ⟨rfl, i1, p_xrw hX hN hok (fun j' r' e' hr' => absurd e' (hno j' (lt_at hr'))) (fun _ => finX (by decide) (hK _ _ _ _ (by omega) (by omega)))⟩)
  have en := at_u (by have := hok.2; omega) (e.symm.trans e') hr hr'
  subst en
  exact fin0 (hK _ _ _ _ (by omega) (by omega))

theorem cs_2381 {z4 : Int32} {v8 : Int32} {v20 : Int32} {v21 : Int32} {v22 : Int32} {v23 : Int32} {v24 : Int32} {v33 : Nat} {v34 : Nat} {v35 : Nat → Int32} {v45 : ZL} {v46 : Nat} {v47 : Nat → Int32} {v19 : Int32} {v44 : Nat → Int64} {rc rs : Nat} {K : Nat → Nat → Int32 → (Nat → Int64) → Prop} (i1 : vp_in (z4 + 1) v46) (hb1 : 10 ≤ rc) (hb2 : 60 ≤ rs) {R : List (Nat × Nat × Nat)} {N : Nat} {v31 : Nat} {v32 : Nat → Int64} {v37 : Nat} {v38 : Nat → Int32} (hR : invR R N v45 v21 v31 v32 v34 v35 v37 v38)
    (hK : ∀ (rc' rs' : Nat) x_v19 x_v44, rc ≤ rc' + 10 → rs ≤ rs' + 60 → K rc' rs' x_v19 x_v44) :
    P_L_law_L2381 z4 v8 v20 v21 v22 v23 v24 v33 v34 v35 v45 v46 v47 K FU rc rs v19 v44 := by
  obtain ⟨f0, hf0⟩ : ∃ f0, FU = f0 + 1 := ⟨19999, rfl⟩
  rw [hf0]
  unfold P_L_law_L2381
  obtain ⟨hz, hc, hok, hN, rfl, e34, e37, hX⟩ := hR
  subst e34 e37
  refine ⟨i1, rc - 10, rs - 60, ⟨by omega, by omega⟩, ?_⟩
  unfold P_L_receiptPrice
  refine p_crp hz hc hok (fun j r e hr => ⟨in01, i1, p_xrp hX hN hok (fun j' r' e' hr' => ?_) (fun hno => absurd e (hno j (lt_at hr)))⟩) (fun hno => ⟨rfl, i1, p_xrp hX hN hok (fun j' r' e' hr' => absurd e' (hno j' (lt_at hr'))) (fun _ => finX (by decide) (hK _ _ _ _ (by omega) (by omega)))⟩)
  have en := at_u (by have := hok.2; omega) (e.symm.trans e') hr hr'
  subst en
  exact fin0 (hK _ _ _ _ (by omega) (by omega))

theorem cs_2437 {z4 : Int32} {v8 : Int32} {v20 : Int32} {v21 : Int32} {v22 : Int32} {v23 : Int32} {v24 : Int32} {v36 : Nat} {v37 : Nat} {v38 : Nat → Int32} {v45 : ZL} {v46 : Nat} {v47 : Nat → Int32} {v19 : Int32} {v44 : Nat → Int64} {rc rs : Nat} {K : Nat → Nat → Int32 → (Nat → Int64) → Prop} (i1 : vp_in (z4 + 1) v46) (hb1 : 10 ≤ rc) (hb2 : 60 ≤ rs) {R : List (Nat × Nat × Nat)} {N : Nat} {v31 : Nat} {v32 : Nat → Int64} {v34 : Nat} {v35 : Nat → Int32} (hR : invR R N v45 v21 v31 v32 v34 v35 v37 v38)
    (hK : ∀ (rc' rs' : Nat) x_v19 x_v44, rc ≤ rc' + 10 → rs ≤ rs' + 60 → K rc' rs' x_v19 x_v44) :
    P_L_law_L2437 z4 v8 v20 v21 v22 v23 v24 v36 v37 v38 v45 v46 v47 K FU rc rs v19 v44 := by
  obtain ⟨f0, hf0⟩ : ∃ f0, FU = f0 + 1 := ⟨19999, rfl⟩
  rw [hf0]
  unfold P_L_law_L2437
  obtain ⟨hz, hc, hok, hN, rfl, e34, e37, hX⟩ := hR
  subst e34 e37
  refine ⟨i1, rc - 10, rs - 60, ⟨by omega, by omega⟩, ?_⟩
  unfold P_L_isReturned
  refine p_crt hz hc hok (fun j r e hr => ⟨fun q => ⟨in01, i1, p_xrt hX hN hok (fun j' r' e' hr' => ?_) (fun hno => absurd e (hno j (lt_at hr)))⟩, fun q => ⟨in01, i1, p_xrt hX hN hok (fun j' r' e' hr' => ?_) (fun hno => absurd e (hno j (lt_at hr)))⟩⟩) (fun hno => ⟨rfl, i1, p_xrt hX hN hok (fun j' r' e' hr' => absurd e' (hno j' (lt_at hr'))) (fun _ => finX (by decide) (hK _ _ _ _ (by omega) (by omega)))⟩)
  · have en := at_u (by have := hok.2; omega) (e.symm.trans e') hr hr'
    subst en
    have ht := (hok.1 r (List.mem_of_getElem? hr)).2
    have e0 : r.2.2 = 0 := (neq (b := 0) (by omega) (by omega)).mp q
    rw [e0]
    exact finB (t := 0) (by omega) (hK _ _ _ _ (by omega) (by omega))
  · have en := at_u (by have := hok.2; omega) (e.symm.trans e') hr hr'
    subst en
    have ht := (hok.1 r (List.mem_of_getElem? hr)).2
    have e0 : r.2.2 ≠ 0 := fun w => q (by rw [w]; rfl)
    have e1 : r.2.2 = 1 := by omega
    rw [e1]
    exact finB (t := 1) (by omega) (hK _ _ _ _ (by omega) (by omega))

