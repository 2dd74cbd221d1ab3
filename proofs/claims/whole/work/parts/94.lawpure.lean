/-! every script: class and model answer alike -/
theorem ex_iff {L j : Nat} (hL : L ≤ 2560) (hj : j ≤ 513) : Int32.ofNat L - 5 < nI (5 * j) ↔ L < 5 * j + 5 := by
  have e : (Int32.ofNat L - 5).toInt = (L : Int) - 5 := pk_sub_toInt (a := L) (b := 5) (by omega) (by omega)
  rw [Int32.lt_iff_toInt_lt, e, nI_toInt (by omega)]
  omega
theorem law_P {L : Nat} (hL : L ≤ 2560) {v7 v47 : Nat → Int32} (ht : isWt v7) : ∀ (k : Nat) {n j rc rs : Nat} {S M : List Nat} {u b : Nat → Nat} {R : List (Nat × Nat × Nat)} {N : Nat} {v0 : Int32} {v1 : Nat → Int64} {v2 : Int32} {v3 : Nat → Int64} {v4 : Nat → Int32} {v5 : Nat → Int32} {v6 : Nat → Int32} {v8 : Int32} {v9 : Nat → Int32} {v10 : Nat → Int32} {v11 : Int32} {v12 : Int32} {v13 : Nat → Int32} {v14 : Int32} {v15 : Nat → Int64} {v16 : Int32} {v17 : Nat → Int64} {v18 : Nat → Int32} {v19 : Int32} {v20 : Int32} {v21 : Int32} {v22 : Int32} {v23 : Int32} {v24 : Int32} {v25 : Nat → Int64} {v26 : Nat → Int32} {v27 : Nat → Int32} {v28 : Nat → Int32} {v29 : Nat → Int32} {v30 : Nat} {v31 : Nat} {v32 : Nat → Int64} {v33 : Nat} {v34 : Nat} {v35 : Nat → Int32} {v36 : Nat} {v37 : Nat} {v38 : Nat → Int32} {v39 : Nat → Int32} {v40 : Nat → Int32} {v41 : Nat → Int32} {v42 : Nat → Int32} {v43 : Nat → Int32} {v44 : Nat → Int64} {v45 : ZL}, j + k = 512 → k < n → invD S M v0 v1 v20 v25 → invU u v5 v26 → invB b v6 v27 → invA v8 v9 v10 v22 v28 v29 → rowIs v14 v15 [] → invR R N v45 v21 v31 v32 v34 v35 v37 v38 → bud k R.length v45.2.1 N rc rs →
    P_L_law_L23 v7 L v47 (fun _ _ _ _ _ _ _ _ _ _ _ _ _ _ _ _ _ _ _ _ _ _ _ _ _ _ _ _ _ _ _ _ _ _ _ _ _ _ _ _ _ _ _ _ _ _ _ => True) n rc rs (nI (5 * j)) v0 v1 v2 v3 v4 v5 v6 v8 v9 v10 v11 v12 v13 v14 v15 v16 v17 v18 v19 v20 v21 v22 v23 v24 v25 v26 v27 v28 v29 v30 v31 v32 v33 v34 v35 v36 v37 v38 v39 v40 v41 v42 v43 v44 v45 := by
  intro k
  induction k with
  | zero =>
    intro n j rc rs S M u b R N v0 v1 v2 v3 v4 v5 v6 v8 v9 v10 v11 v12 v13 v14 v15 v16 v17 v18 v19 v20 v21 v22 v23 v24 v25 v26 v27 v28 v29 v30 v31 v32 v33 v34 v35 v36 v37 v38 v39 v40 v41 v42 v43 v44 v45 hjk hkn hD hU hB hA h14 hR hbud
    obtain ⟨n0, rfl⟩ : ∃ n0, n = n0 + 1 := ⟨n - 1, by omega⟩
    unfold P_L_law_L23
    exact ⟨fun _ => trivial, fun c => absurd ((ex_iff hL (by omega)).mpr (by omega)) c⟩
  | succ k ih =>
    intro n j rc rs S M u b R N v0 v1 v2 v3 v4 v5 v6 v8 v9 v10 v11 v12 v13 v14 v15 v16 v17 v18 v19 v20 v21 v22 v23 v24 v25 v26 v27 v28 v29 v30 v31 v32 v33 v34 v35 v36 v37 v38 v39 v40 v41 v42 v43 v44 v45 hjk hkn hD hU hB hA h14 hR hbud
    obtain ⟨n0, rfl⟩ : ∃ n0, n = n0 + 1 := ⟨n - 1, by omega⟩
    unfold P_L_law_L23
    refine ⟨fun _ => trivial, fun c => ?_⟩
    have hlt : ¬ L < 5 * j + 5 := fun q => c ((ex_iff hL (by omega)).mpr q)
    have e5 : nI (5 * j) + 5 = nI (5 * (j + 1)) := by
      show nI (5 * j) + nI 5 = _
      rw [nI_add]
      congr 1
    have i0 : vp_in (nI (5 * j)) L := nI_in (by omega) (by omega)
    have i1 : vp_in (nI (5 * j) + 1) L := by rw [← nI_succ]; exact nI_in (by omega) (by omega)
    have i2 : vp_in (nI (5 * j) + 2) L := by
      show vp_in (nI (5 * j) + nI 2) L
      rw [nI_add]; exact nI_in (by omega) (by omega)
    have i3 : vp_in (nI (5 * j) + 3) L := by
      show vp_in (nI (5 * j) + nI 3) L
      rw [nI_add]; exact nI_in (by omega) (by omega)
    have i4 : vp_in (nI (5 * j) + 4) L := by
      show vp_in (nI (5 * j) + nI 4) L
      rw [nI_add]; exact nI_in (by omega) (by omega)
    have hb1 : 10 ≤ rc := by have := hbud.2.1; omega
    have hb2 : 60 ≤ rs := by have := hbud.2.2; omega
    rw [e5]
    refine ⟨i0, fun _ => ?_, fun _ => ?_, fun _ => ?_, fun _ => ?_, fun _ => ?_, fun _ => ?_, fun _ => ?_, fun _ => ?_, fun _ => ?_, fun _ => ?_, fun _ => ?_, fun _ => ?_, fun _ => ?_, fun _ => ?_, fun _ => ?_, fun _ => ?_, fun _ => ?_, fun _ => ?_, fun _ => ?_, fun _ => ?_, fun _ => ?_, fun _ => ?_, fun _ => ?_, fun _ => ?_, fun _ => ?_, fun _ => ?_, fun _ => ?_, fun _ => ?_, fun _ => ?_, fun _ => ?_, fun _ => ?_, fun _ => ?_, fun _ => ?_, fun _ => ?_, fun _ => ?_, fun _ => ?_, fun _ => ih (by omega) (by omega) hD hU hB hA h14 hR (bud_s hbud (by omega) (by omega))⟩
    · exact cs_196 i1 i2 hb1 hb2 hD.1 hD.2.1 hD.2.2 (fun _ _ _ _ _ _ _ _ _ _ h1 h2 h3 h4 h5 => ih (by omega) (by omega) ⟨h3, h4, h5⟩ hU hB hA h14 hR (bud_s hbud h1 h2))
    · exact cs_284 i1 i2 hb1 hb2 hD.1 hD.2.1 hD.2.2 (fun _ _ _ _ _ _ _ _ _ _ h1 h2 h3 h4 h5 => ih (by omega) (by omega) ⟨h3, h4, h5⟩ hU hB hA h14 hR (bud_s hbud h1 h2))
    · exact cs_372 hb1 hb2 hD.1 hD.2.1 hD.2.2 (fun _ _ _ h1 h2 => ih (by omega) (by omega) hD hU hB hA h14 hR (bud_s hbud h1 h2))
    · exact cs_385 i1 hb1 hb2 hD.1 hD.2.1 hD.2.2 (fun _ _ _ _ h1 h2 => ih (by omega) (by omega) hD hU hB hA h14 hR (bud_s hbud h1 h2))
    · exact cs_440 i1 i2 hb1 hb2 hD.1 hD.2.1 hD.2.2 (fun _ _ _ _ h1 h2 => ih (by omega) (by omega) hD hU hB hA h14 hR (bud_s hbud h1 h2))
    · exact cs_535 i1 i2 hb1 hb2 hD.1 hD.2.1 hD.2.2 (fun _ _ _ _ _ _ _ _ _ _ h1 h2 => ih (by omega) (by omega) hD hU hB hA h14 hR (bud_s hbud h1 h2))
    · exact cs_623 i1 i2 i3 hb1 hb2 hD.1 hD.2.1 hD.2.2 (fun _ _ _ _ _ _ _ _ _ _ h1 h2 => ih (by omega) (by omega) hD hU hB hA h14 hR (bud_s hbud h1 h2))
    · exact cs_722 hb1 hb2 hD.1 hD.2.1 hD.2.2 (fun _ _ _ _ _ _ _ _ _ h1 h2 => ih (by omega) (by omega) hD hU hB hA h14 hR (bud_s hbud h1 h2))
    · exact cs_735 i1 i2 hb1 hb2 hD.1 hD.2.1 hD.2.2 (fun _ _ _ _ _ _ _ _ _ _ h1 h2 => ih (by omega) (by omega) hD hU hB hA h14 hR (bud_s hbud h1 h2))
    · exact cs_823 i1 i2 i3 hb1 hb2 hD.1 hD.2.1 hD.2.2 (fun _ _ _ _ _ _ _ _ _ _ h1 h2 => ih (by omega) (by omega) hD hU hB hA h14 hR (bud_s hbud h1 h2))
    · exact cs_922 i1 i2 i3 hb1 hb2 hU hA.2.1 (fun _ _ _ _ _ _ _ _ _ _ _ _ _ h1 h2 h3 h4 => ih (by omega) (by omega) hD h3 hB ⟨hA.1, h4, hA.2.2⟩ h14 hR (bud_s hbud h1 h2))
    · exact cs_1022 i1 hb1 hb2 hU (fun _ _ _ _ h1 h2 => ih (by omega) (by omega) hD hU hB hA h14 hR (bud_s hbud h1 h2))
    · exact cs_1078 hb1 hb2 hU (fun _ _ _ h1 h2 => ih (by omega) (by omega) hD hU hB hA h14 hR (bud_s hbud h1 h2))
    · exact cs_1091 i1 i2 hb1 hb2 hB (fun _ _ _ _ _ _ _ h1 h2 h3 => ih (by omega) (by omega) hD hU h3 hA h14 hR (bud_s hbud h1 h2))
    · exact cs_1159 i1 hb1 hb2 hB (fun _ _ _ _ h1 h2 => ih (by omega) (by omega) hD hU hB hA h14 hR (bud_s hbud h1 h2))
    · exact cs_1215 i1 hb1 hb2 hU hB (fun _ _ _ _ h1 h2 => ih (by omega) (by omega) hD hU hB hA h14 hR (bud_s hbud h1 h2))
    · exact cs_1271 i1 i2 hb1 hb2 ht (fun _ _ _ _ h1 h2 => ih (by omega) (by omega) hD hU hB hA h14 hR (bud_s hbud h1 h2))
    · exact cs_1359 i1 i2 hb1 hb2 hU hB ht (fun _ _ _ _ _ _ _ _ h1 h2 => ih (by omega) (by omega) hD hU hB hA h14 hR (bud_s hbud h1 h2))
    · exact cs_1447 i1 i2 hb1 hb2 hU (fun _ _ _ _ _ _ _ h1 h2 => ih (by omega) (by omega) hD hU hB hA h14 hR (bud_s hbud h1 h2))
    · exact cs_1535 i1 i2 i3 hb1 hb2 hD.1 hD.2.1 hD.2.2 hU hB ht (fun _ _ _ _ _ _ _ _ h1 h2 => ih (by omega) (by omega) hD hU hB hA h14 hR (bud_s hbud h1 h2))
    · exact cs_1635 i1 i2 i3 hb1 hb2 hD.1 hD.2.1 hD.2.2 hU hB ht hA.1 hA.2.2 hR hbud (fun _ _ _ _ _ _ _ _ _ _ _ _ _ _ _ _ _ _ _ _ _ _ _ _ _ _ _ _ h1 h2 h3 h4 h5 => ih (by omega) (by omega) hD h2 hB ⟨h3, hA.2.1, h4⟩ h14 h5 h1)
    · exact cs_1735 i1 hb1 hb2 hD.1 hD.2.1 hD.2.2 hU hB ht (fun _ _ _ _ _ _ _ _ h1 h2 => ih (by omega) (by omega) hD hU hB hA h14 hR (bud_s hbud h1 h2))
    · exact cs_1791 i1 hb1 hb2 hD.1 hD.2.1 hD.2.2 hU hB ht (fun _ _ _ _ _ _ _ _ h1 h2 => ih (by omega) (by omega) hD hU hB hA h14 hR (bud_s hbud h1 h2))
    · exact cs_1846 i1 hb1 hb2 hD.1 hD.2.1 hD.2.2 hU hB ht hA.1 hA.2.2 hR hbud (fun _ _ _ _ _ _ _ _ _ _ _ _ _ _ _ _ _ _ _ _ _ _ _ _ _ _ _ _ h1 h2 h3 h4 h5 => ih (by omega) (by omega) hD h2 hB ⟨h3, hA.2.1, h4⟩ h14 h5 h1)
    · exact cs_1902 i1 i2 i3 hb1 hb2 hD.1 hD.2.1 hD.2.2 h14 (fun _ _ _ _ _ _ _ _ _ _ _ _ _ _ _ _ _ _ _ _ _ h1 h2 h3 => ih (by omega) (by omega) hD hU hB hA h3 hR (bud_s hbud h1 h2))
    · exact cs_2002 i1 i2 i3 i4 hb1 hb2 hD.1 hD.2.1 hD.2.2 h14 (fun _ _ _ _ _ _ _ _ _ _ _ _ _ _ _ _ _ _ _ _ _ h1 h2 h3 => ih (by omega) (by omega) hD hU hB hA h3 hR (bud_s hbud h1 h2))
    · exact cs_2113 i1 i2 i3 hb1 hb2 hD.1 hD.2.1 hD.2.2 h14 (fun _ _ _ _ _ _ _ _ _ _ _ _ _ _ _ _ _ _ _ _ _ h1 h2 h3 => ih (by omega) (by omega) hD hU hB hA h3 hR (bud_s hbud h1 h2))
    · exact cs_2213 i1 i2 i3 hb1 hb2 hD.1 hD.2.1 hD.2.2 hU hA.1 hA.2.1 hA.2.2 h14 hR hbud (fun _ _ _ _ _ _ _ _ _ _ _ _ _ _ _ _ _ _ _ _ _ _ _ _ _ _ _ _ _ _ _ _ _ _ _ _ _ _ _ _ _ _ _ h1 h2 h3 h4 h5 h6 h7 => ih (by omega) (by omega) hD h2 hB ⟨h3, h4, h5⟩ h6 h7 h1)
    · exact cs_2313 hb1 hb2 hR.1 hR.2.2.2.2.2.2.2.1 (fun _ _ _ h1 h2 => ih (by omega) (by omega) hD hU hB hA h14 hR (bud_s hbud h1 h2))
    · exact cs_2326 i1 hb1 hb2 hR (fun _ _ _ _ h1 h2 => ih (by omega) (by omega) hD hU hB hA h14 hR (bud_s hbud h1 h2))
    · exact cs_2381 i1 hb1 hb2 hR (fun _ _ _ _ h1 h2 => ih (by omega) (by omega) hD hU hB hA h14 hR (bud_s hbud h1 h2))
    · exact cs_2437 i1 hb1 hb2 hR (fun _ _ _ _ h1 h2 => ih (by omega) (by omega) hD hU hB hA h14 hR (bud_s hbud h1 h2))
    · exact cs_2500 i1 hb1 hb2 hU hA.1 hA.2.2 hR (fun _ _ _ _ _ _ _ _ _ _ _ _ _ _ _ _ _ _ h1 h2 h3 h4 h5 h6 h7 h8 => ih (by omega) (by omega) hD h3 hB ⟨h4, hA.2.1, h5⟩ h14 h6 (by rw [h7, h8]; exact (bud_s hbud h1 h2)))
    · exact cs_2556 hb1 hb2 hA.1 (fun _ _ _ h1 h2 => ih (by omega) (by omega) hD hU hB hA h14 hR (bud_s hbud h1 h2))
    · exact cs_2569 i1 hb1 hb2 hA.2.1 (fun _ _ _ _ h1 h2 => ih (by omega) (by omega) hD hU hB hA h14 hR (bud_s hbud h1 h2))
    · exact cs_2625 i1 hb1 hb2 hA.2.2 (fun _ _ _ _ h1 h2 => ih (by omega) (by omega) hD hU hB hA h14 hR (bud_s hbud h1 h2))
