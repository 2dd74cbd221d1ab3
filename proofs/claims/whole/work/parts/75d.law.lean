set_option maxHeartbeats 4000000 in
set_option maxRecDepth 100000 in
theorem w_L_law_L1447 {x : Cx} {mc ms : Nat} (hf : fx x (rm_L_law) RL cL_law wsL_law) (hn : xn x = 8) {k0 n0 rc rs : Nat} (hk : k0 + rc ≤ (rm_L_law).cells ∧ n0 + rs ≤ (rm_L_law).slots) (a0 a1 a2 a3 a4 a5 a6 a7 a8 a9 a10 a11 a12 a13 a14 a15 a16 a17 a18 a19 a20 a21 a22 a23 a24 a25 a26 a27 a28 a29 a30 a31 a32 a33 a34 a35 a36 a37 a38 a39 ab : Nat) (z4 : Int32) (v5 : Nat → Int32) (v20 : Int32) (v21 : Int32) (v22 : Int32) (v24 : Int32) (v26 : Nat → Int32) (v46 : Nat) (v47 : Nat → Int32) (v0 : Int32) (v1 : Nat → Int64) (v2 : Int32) (v3 : Nat → Int64) (v4 : Nat → Int32) (v6 : Nat → Int32) (v7 : Nat → Int32) (v8 : Int32) (v9 : Nat → Int32) (v10 : Nat → Int32) (v11 : Int32) (v12 : Int32) (v13 : Nat → Int32) (v14 : Int32) (v15 : Nat → Int64) (v16 : Int32) (v17 : Nat → Int64) (v18 : Nat → Int32) (v25 : Nat → Int64) (v27 : Nat → Int32) (v28 : Nat → Int32) (v29 : Nat → Int32) (v30 : Nat) (v31 : Nat) (v32 : Nat → Int64) (v33 : Nat) (v34 : Nat) (v35 : Nat → Int32) (v36 : Nat) (v37 : Nat) (v38 : Nat → Int32) (v41 : Nat → Int32) (v42 : Nat → Int32) (v43 : Nat → Int32) (v45 : ZL) {K2681 : Nat → Nat → Int32 → Int32 → (Nat → Int32) → (Nat → Int32) → (Nat → Int64) → Prop} (hst : (xl x).stackTraces = false) (hX : sX x ab v46 v47)
    (n : Nat) (v19 : Int32) (v23 : Int32) (v39 : Nat → Int32) (v40 : Nat → Int32) (v44 : Nat → Int64) (h : P_L_law_L1447 z4 v5 v20 v21 v22 v24 v26 v46 v47 K2681 n rc rs v19 v23 v39 v40 v44)
    (hK2681 : ∀ (k0 n0 rc rs : Nat), k0 + rc ≤ (rm_L_law).cells ∧ n0 + rs ≤ (rm_L_law).slots → ∀ (uv19 : Int32), ∀ (uv23 : Int32), ∀ (uv39 : Nat → Int32), ∀ (uv40 : Nat → Int32), ∀ (uv44 : Nat → Int64), K2681 rc rs uv19 uv23 uv39 uv40 uv44 → ww x (W_L_law (xg x) a0 a1 a2 a3 a4 a5 a6 a7 a8 a9 a10 a11 a12 a13 a14 a15 a16 a17 a18 a19 a20 a21 a22 a23 a24 a25 a26 a27 a28 a29 a30 a31 a32 a33 a34 a35 a36 a37 a38 a39 ab v0 v1 v2 v3 v4 v5 v6 v7 v8 v9 v10 v11 v12 v13 v14 v15 v16 v17 v18 uv19 v20 v21 v22 uv23 v24 v25 v26 v27 v28 v29 v30 v31 v32 v33 v34 v35 v36 v37 v38 uv39 uv40 v41 v42 v43 uv44 v46 v47 ++ ZP (xg x) a39 v45) [(0, .ref ab), (1, .ref a0), (2, .ref a27), (3, .ref a38), (4, .int z4)] k0 n0 2681 []) :
    ww x (W_L_law (xg x) a0 a1 a2 a3 a4 a5 a6 a7 a8 a9 a10 a11 a12 a13 a14 a15 a16 a17 a18 a19 a20 a21 a22 a23 a24 a25 a26 a27 a28 a29 a30 a31 a32 a33 a34 a35 a36 a37 a38 a39 ab v0 v1 v2 v3 v4 v5 v6 v7 v8 v9 v10 v11 v12 v13 v14 v15 v16 v17 v18 v19 v20 v21 v22 v23 v24 v25 v26 v27 v28 v29 v30 v31 v32 v33 v34 v35 v36 v37 v38 v39 v40 v41 v42 v43 v44 v46 v47 ++ ZP (xg x) a39 v45) [(0, .ref ab), (1, .ref a0), (2, .ref a27), (3, .ref a38), (4, .int z4)] k0 n0 1447 [] := by
  induction n generalizing k0 n0 rc rs v19 v23 v39 v40 v44 with
  | zero => exact h.elim
  | succ n ih =>
    unfold P_L_law_L1447 at h
    refine xw_aload_n hf (pc := 1447) dL_law_1447 rfl 1 rfl ?_
    refine xw_aload_n hf (pc := 1448) dL_law_1448 rfl 0 rfl ?_
    refine xw_iload hf (pc := 1449) dL_law_1449 4 rfl ?_
    refine xw_iconst hf (pc := 1451) dL_law_1451 (v := 1) (by decide) ?_
    refine xw_iadd hf (pc := 1452) dL_law_1452 ?_
    refine xw_sald hf hX dL_law_1453 h.1 ?_
    have h := h.2
    refine xw_i2l hf (pc := 1454) dL_law_1454 ?_
    refine xw_bipush hf (pc := 1455) dL_law_1455 (v := 32) (by decide) ?_
    refine xw_lshl hf (pc := 1457) dL_law_1457 ?_
    refine xw_aload_n hf (pc := 1458) dL_law_1458 rfl 0 rfl ?_
    refine xw_iload hf (pc := 1459) dL_law_1459 4 rfl ?_
    refine xw_iconst hf (pc := 1461) dL_law_1461 (v := 2) (by decide) ?_
    refine xw_iadd hf (pc := 1462) dL_law_1462 ?_
    refine xw_sald hf hX dL_law_1463 h.1 ?_
    have h := h.2
    refine xw_i2l hf (pc := 1464) dL_law_1464 ?_
    refine xw_ldc2 hf (pc := 1465) dL_law_1465 mw_L_law_0 ?_
    refine xw_land hf (pc := 1468) dL_law_1468 ?_
    refine xw_lor hf (pc := 1469) dL_law_1469 ?_
    refine xw_aload_n hf (pc := 1470) dL_law_1470 rfl 3 rfl ?_
    obtain ⟨mc328, ms329, ⟨hb1, hb2⟩, h⟩ := h
    refine xw_callSW hf (pc := 1471) (nA := 3) (Xr := [(a1, .inr (2, [.ref a2, .ref a4, .ref a6])), (a2, .inr (7, [.ref a3, .int v0])), (a3, .inl (gJ (xg x), 60, .inr (.inl v1))), (a4, .inr (7, [.ref a5, .int v2])), (a5, .inl (gJ (xg x), 60, .inr (.inl v3))), (a6, .inr (3, [.ref a7])), (a7, .inl (gI (xg x), 32, .inl v4)), (a11, .inl (gI (xg x), 32, .inl v6)), (a12, .inl (gI (xg x), 32, .inl v7)), (a13, .inr (1, [.ref a39, .ref a14, .ref a16, .int v8])), (a14, .inr (3, [.ref a15])), (a15, .inl (gI (xg x), 32, .inl v9)), (a16, .inr (3, [.ref a17])), (a17, .inl (gI (xg x), 32, .inl v10)), (a18, .inr (4, [.ref a19, .ref a21, .ref a23, .int v11, .int v12])), (a19, .inr (3, [.ref a20])), (a20, .inl (gI (xg x), 32, .inl v13)), (a21, .inr (7, [.ref a22, .int v14])), (a22, .inl (gJ (xg x), 60, .inr (.inl v15))), (a23, .inr (7, [.ref a24, .int v16])), (a24, .inl (gJ (xg x), 60, .inr (.inl v17))), (a25, .inr (3, [.ref a26])), (a26, .inl (gI (xg x), 32, .inl v18)), (a27, .inr (9, [.int v19, .ref a28, .int v20, .ref a29, .ref a30, .ref a31, .ref a32, .ref v30, .ref v33, .ref v36, .int v21, .int v22, .ref a33, .int v23, .ref a34, .ref a35, .ref a36, .ref a37, .int v24])), (a28, .inl (gJ (xg x), 60, .inr (.inl v25))), (a29, .inl (gI (xg x), 27, .inl v26)), (a30, .inl (gI (xg x), 27, .inl v27)), (a31, .inl (gI (xg x), 27, .inl v28)), (a32, .inl (gI (xg x), 27, .inl v29)), (v30, .inl (gJ (xg x), v31, .inr (.inl v32))), (v33, .inl (gI (xg x), v34, .inl v35)), (v36, .inl (gZ (xg x), v37, .inl v38)), (a33, .inl (gI (xg x), 12, .inl v39)), (a34, .inl (gI (xg x), 27, .inl v40)), (a35, .inl (gI (xg x), 27, .inl v41)), (a36, .inl (gI (xg x), 60, .inl v42)), (a37, .inl (gI (xg x), 3, .inl v43))] ++ ZP (xg x) a39 v45) (rest := []) (c_L_missingLetter (xl x) (xg x) hst a0 a8 a9 a10 a38 a1 a13 a18 a25 a11 a12 v5 v44 ((((v47 (z4 + 1).toNatClampNeg).toInt64) <<< ((32 : Int32).toInt64 &&& 63)) ||| (((v47 (z4 + 2).toNatClampNeg).toInt64) &&& 4294967295)) h) gL_law_L_missingLetter (by rfl) rfl (by decide +kernel) ⟨⟨(Nat.le_of_ble_eq_true rfl), (Nat.le_of_ble_eq_true rfl)⟩, (Nat.le_trans (show k0 + 1 ≤ k0 + rc by omega) hk.1), (Nat.le_trans (show n0 + 6 ≤ n0 + rs by omega) hk.2)⟩ (Nat.le_of_ble_eq_true rfl) (sb_zr (sb_of [0, 8, 9, 10, 41, 1, 2, 3, 4, 5, 6, 7, 11, 12, 13, 14, 15, 16, 17, 18, 19, 20, 21, 22, 23, 24, 25, 26, 27, 28, 29, 30, 31, 32, 33, 34, 35, 36, 37, 38, 39, 40] rfl rfl)) rfl dL_law_1471 (fun v X1 hp => ?_)
    obtain ⟨r326, w327, rfl, rfl, h⟩ := hp
    have hk : k0 + 1 + mc328 ≤ (rm_L_law).cells ∧ n0 + 6 + ms329 ≤ (rm_L_law).slots := ⟨Nat.le_trans (show k0 + 1 + mc328 ≤ k0 + rc by omega) hk.1, Nat.le_trans (show n0 + 6 + ms329 ≤ n0 + rs by omega) hk.2⟩
    refine xw_X (sb_rz (sb_of [0, 5, 6, 7, 8, 9, 10, 11, 1, 2, 3, 12, 13, 14, 15, 16, 17, 18, 19, 20, 21, 22, 23, 24, 25, 26, 27, 28, 29, 30, 31, 32, 33, 34, 35, 36, 37, 38, 39, 40, 41, 4] rfl rfl)) (show ww x (W_L_law (xg x) a0 a1 a2 a3 a4 a5 a6 a7 a8 a9 a10 a11 a12 a13 a14 a15 a16 a17 a18 a19 a20 a21 a22 a23 a24 a25 a26 a27 a28 a29 a30 a31 a32 a33 a34 a35 a36 a37 a38 a39 ab v0 v1 v2 v3 v4 v5 v6 v7 v8 v9 v10 v11 v12 v13 v14 v15 v16 v17 v18 v19 v20 v21 v22 v23 v24 v25 v26 v27 v28 v29 v30 v31 v32 v33 v34 v35 v36 v37 v38 v39 v40 v41 v42 v43 w327 v46 v47 ++ ZP (xg x) a39 v45) [(0, .ref ab), (1, .ref a0), (2, .ref a27), (3, .ref a38), (4, .int z4)] (k0 + 1) (n0 + 6) 1474 [.int r326] from ?_)
    refine xw_istore hf (pc := 1474) dL_law_1474 [(5, .int r326), (0, .ref ab), (1, .ref a0), (2, .ref a27), (3, .ref a38), (4, .int z4)] hn (by decide) rfl ?_
    refine xw_aload_n hf (pc := 1476) dL_law_1476 rfl 3 rfl ?_
    refine xw_aload_n hf (pc := 1477) dL_law_1477 rfl 1 rfl ?_
    refine xw_iload hf (pc := 1478) dL_law_1478 5 rfl ?_
    refine xw_iconst hf (pc := 1480) dL_law_1480 (v := 1) (by decide) ?_
    refine xw_iadd hf (pc := 1481) dL_law_1481 ?_
    refine xw_sald hf hX dL_law_1482 h.1 ?_
    have h := h.2
    refine xw_i2l hf (pc := 1483) dL_law_1483 ?_
    refine xw_bipush hf (pc := 1484) dL_law_1484 (v := 32) (by decide) ?_
    refine xw_lshl hf (pc := 1486) dL_law_1486 ?_
    refine xw_aload_n hf (pc := 1487) dL_law_1487 rfl 1 rfl ?_
    refine xw_iload hf (pc := 1488) dL_law_1488 5 rfl ?_
    refine xw_iconst hf (pc := 1490) dL_law_1490 (v := 2) (by decide) ?_
    refine xw_iadd hf (pc := 1491) dL_law_1491 ?_
    refine xw_sald hf hX dL_law_1492 h.1 ?_
    have h := h.2
    refine xw_i2l hf (pc := 1493) dL_law_1493 ?_
    refine xw_ldc2 hf (pc := 1494) dL_law_1494 mw_L_law_0 ?_
    refine xw_land hf (pc := 1497) dL_law_1497 ?_
    refine xw_lor hf (pc := 1498) dL_law_1498 ?_
    refine xw_callV hf (pc := 1499) (nA := 1) (Xr := [(a0, .inr (8, [.ref a1, .ref a8, .ref a13, .ref a18, .ref a25])), (a1, .inr (2, [.ref a2, .ref a4, .ref a6])), (a2, .inr (7, [.ref a3, .int v0])), (a3, .inl (gJ (xg x), 60, .inr (.inl v1))), (a4, .inr (7, [.ref a5, .int v2])), (a5, .inl (gJ (xg x), 60, .inr (.inl v3))), (a6, .inr (3, [.ref a7])), (a7, .inl (gI (xg x), 32, .inl v4)), (a8, .inr (6, [.ref a9, .ref a11, .ref a12])), (a9, .inr (3, [.ref a10])), (a10, .inl (gI (xg x), 32, .inl v5)), (a11, .inl (gI (xg x), 32, .inl v6)), (a12, .inl (gI (xg x), 32, .inl v7)), (a13, .inr (1, [.ref a39, .ref a14, .ref a16, .int v8])), (a14, .inr (3, [.ref a15])), (a15, .inl (gI (xg x), 32, .inl v9)), (a16, .inr (3, [.ref a17])), (a17, .inl (gI (xg x), 32, .inl v10)), (a18, .inr (4, [.ref a19, .ref a21, .ref a23, .int v11, .int v12])), (a19, .inr (3, [.ref a20])), (a20, .inl (gI (xg x), 32, .inl v13)), (a21, .inr (7, [.ref a22, .int v14])), (a22, .inl (gJ (xg x), 60, .inr (.inl v15))), (a23, .inr (7, [.ref a24, .int v16])), (a24, .inl (gJ (xg x), 60, .inr (.inl v17))), (a25, .inr (3, [.ref a26])), (a26, .inl (gI (xg x), 32, .inl v18)), (a28, .inl (gJ (xg x), 60, .inr (.inl v25))), (a30, .inl (gI (xg x), 27, .inl v27)), (a31, .inl (gI (xg x), 27, .inl v28)), (a32, .inl (gI (xg x), 27, .inl v29)), (v30, .inl (gJ (xg x), v31, .inr (.inl v32))), (v33, .inl (gI (xg x), v34, .inl v35)), (v36, .inl (gZ (xg x), v37, .inl v38)), (a35, .inl (gI (xg x), 27, .inl v41)), (a36, .inl (gI (xg x), 60, .inl v42)), (a37, .inl (gI (xg x), 3, .inl v43)), (a38, .inl (gJ (xg x), 1, .inr (.inl w327)))] ++ ZP (xg x) a39 v45) (rest := []) (T := TX9) (c_X9_missingLetter (xl x) (xg x) a27 a29 a33 a34 a28 a30 a31 a32 v30 v33 v36 a35 a36 a37 v19 v20 v21 v22 v23 v24 v26 v39 v40 ((((v47 (z4 + 1).toNatClampNeg).toInt64) <<< ((32 : Int32).toInt64 &&& 63)) ||| (((v47 (z4 + 2).toNatClampNeg).toInt64) &&& 4294967295)) h) gL_law_X9_missingLetter (by rfl) rfl rfl (by decide +kernel) ⟨⟨(Nat.le_of_ble_eq_true rfl), (Nat.le_of_ble_eq_true rfl)⟩, (Nat.le_trans (Nat.le_add_right _ _) hk.1), (Nat.le_trans (Nat.le_add_right _ _) hk.2)⟩ (Nat.le_of_ble_eq_true rfl) rfl rfl (sb_zr (sb_of [27, 29, 36, 37, 0, 1, 2, 3, 4, 5, 6, 7, 8, 9, 10, 11, 12, 13, 14, 15, 16, 17, 18, 19, 20, 21, 22, 23, 24, 25, 26, 28, 30, 31, 32, 33, 34, 35, 38, 39, 40, 41] rfl rfl)) rfl dL_law_1499 (fun v X1 hp => ?_)
    obtain ⟨r330, w331, w332, w333, w334, rfl, rfl, h⟩ := hp
    refine xw_X (sb_rz (sb_of [4, 5, 6, 7, 8, 9, 10, 11, 12, 13, 14, 15, 16, 17, 18, 19, 20, 21, 22, 23, 24, 25, 26, 27, 28, 29, 30, 0, 31, 1, 32, 33, 34, 35, 36, 37, 2, 3, 38, 39, 40, 41] rfl rfl)) (show ww x (W_L_law (xg x) a0 a1 a2 a3 a4 a5 a6 a7 a8 a9 a10 a11 a12 a13 a14 a15 a16 a17 a18 a19 a20 a21 a22 a23 a24 a25 a26 a27 a28 a29 a30 a31 a32 a33 a34 a35 a36 a37 a38 a39 ab v0 v1 v2 v3 v4 v5 v6 v7 v8 v9 v10 v11 v12 v13 v14 v15 v16 v17 v18 w331 v20 v21 v22 w332 v24 v25 v26 v27 v28 v29 v30 v31 v32 v33 v34 v35 v36 v37 v38 w333 w334 v41 v42 v43 w327 v46 v47 ++ ZP (xg x) a39 v45) [(5, .int r326), (0, .ref ab), (1, .ref a0), (2, .ref a27), (3, .ref a38), (4, .int z4)] (k0 + 1) (n0 + 6) 1502 [.int r330] from ?_)
    refine xw_istore hf (pc := 1502) dL_law_1502 [(6, .int r330), (5, .int r326), (0, .ref ab), (1, .ref a0), (2, .ref a27), (3, .ref a38), (4, .int z4)] hn (by decide) rfl ?_
    refine xw_aload_n hf (pc := 1504) dL_law_1504 rfl 4 rfl ?_
    refine xw_callV hf (pc := 1505) (nA := 0) (Xr := [(a0, .inr (8, [.ref a1, .ref a8, .ref a13, .ref a18, .ref a25])), (a1, .inr (2, [.ref a2, .ref a4, .ref a6])), (a2, .inr (7, [.ref a3, .int v0])), (a3, .inl (gJ (xg x), 60, .inr (.inl v1))), (a4, .inr (7, [.ref a5, .int v2])), (a5, .inl (gJ (xg x), 60, .inr (.inl v3))), (a6, .inr (3, [.ref a7])), (a7, .inl (gI (xg x), 32, .inl v4)), (a8, .inr (6, [.ref a9, .ref a11, .ref a12])), (a9, .inr (3, [.ref a10])), (a10, .inl (gI (xg x), 32, .inl v5)), (a11, .inl (gI (xg x), 32, .inl v6)), (a12, .inl (gI (xg x), 32, .inl v7)), (a13, .inr (1, [.ref a39, .ref a14, .ref a16, .int v8])), (a14, .inr (3, [.ref a15])), (a15, .inl (gI (xg x), 32, .inl v9)), (a16, .inr (3, [.ref a17])), (a17, .inl (gI (xg x), 32, .inl v10)), (a18, .inr (4, [.ref a19, .ref a21, .ref a23, .int v11, .int v12])), (a19, .inr (3, [.ref a20])), (a20, .inl (gI (xg x), 32, .inl v13)), (a21, .inr (7, [.ref a22, .int v14])), (a22, .inl (gJ (xg x), 60, .inr (.inl v15))), (a23, .inr (7, [.ref a24, .int v16])), (a24, .inl (gJ (xg x), 60, .inr (.inl v17))), (a25, .inr (3, [.ref a26])), (a26, .inl (gI (xg x), 32, .inl v18)), (a28, .inl (gJ (xg x), 60, .inr (.inl v25))), (a29, .inl (gI (xg x), 27, .inl v26)), (a30, .inl (gI (xg x), 27, .inl v27)), (a31, .inl (gI (xg x), 27, .inl v28)), (a32, .inl (gI (xg x), 27, .inl v29)), (v30, .inl (gJ (xg x), v31, .inr (.inl v32))), (v33, .inl (gI (xg x), v34, .inl v35)), (v36, .inl (gZ (xg x), v37, .inl v38)), (a33, .inl (gI (xg x), 12, .inl w333)), (a34, .inl (gI (xg x), 27, .inl w334)), (a35, .inl (gI (xg x), 27, .inl v41)), (a36, .inl (gI (xg x), 60, .inl v42)), (a37, .inl (gI (xg x), 3, .inl v43)), (a38, .inl (gJ (xg x), 1, .inr (.inl w327)))] ++ ZP (xg x) a39 v45) (rest := []) (T := TX9) (c_X9_thrown (xl x) (xg x) a27 a28 a29 a30 a31 a32 v30 v33 v36 a33 a34 a35 a36 a37 w331 v20 v21 v22 w332 v24 h) gL_law_X9_thrown (by rfl) rfl rfl (by decide +kernel) ⟨⟨(Nat.le_of_ble_eq_true rfl), (Nat.le_of_ble_eq_true rfl)⟩, (Nat.le_trans (Nat.le_add_right _ _) hk.1), (Nat.le_trans (Nat.le_add_right _ _) hk.2)⟩ (Nat.le_of_ble_eq_true rfl) rfl rfl (sb_zr (sb_of [27, 0, 1, 2, 3, 4, 5, 6, 7, 8, 9, 10, 11, 12, 13, 14, 15, 16, 17, 18, 19, 20, 21, 22, 23, 24, 25, 26, 28, 29, 30, 31, 32, 33, 34, 35, 36, 37, 38, 39, 40, 41] rfl rfl)) rfl dL_law_1505 (fun v X1 hp => ?_)
    obtain ⟨r335, rfl, rfl, h⟩ := hp
    refine xw_X (sb_rz (sb_of [1, 2, 3, 4, 5, 6, 7, 8, 9, 10, 11, 12, 13, 14, 15, 16, 17, 18, 19, 20, 21, 22, 23, 24, 25, 26, 27, 0, 28, 29, 30, 31, 32, 33, 34, 35, 36, 37, 38, 39, 40, 41] rfl rfl)) (show ww x (W_L_law (xg x) a0 a1 a2 a3 a4 a5 a6 a7 a8 a9 a10 a11 a12 a13 a14 a15 a16 a17 a18 a19 a20 a21 a22 a23 a24 a25 a26 a27 a28 a29 a30 a31 a32 a33 a34 a35 a36 a37 a38 a39 ab v0 v1 v2 v3 v4 v5 v6 v7 v8 v9 v10 v11 v12 v13 v14 v15 v16 v17 v18 w331 v20 v21 v22 w332 v24 v25 v26 v27 v28 v29 v30 v31 v32 v33 v34 v35 v36 v37 v38 w333 w334 v41 v42 v43 w327 v46 v47 ++ ZP (xg x) a39 v45) [(6, .int r330), (5, .int r326), (0, .ref ab), (1, .ref a0), (2, .ref a27), (3, .ref a38), (4, .int z4)] (k0 + 1) (n0 + 6) 1508 [.int r335] from ?_)
    refine xw_iload hf (pc := 1508) dL_law_1508 1 rfl ?_
    refine xw_icmp_eq hf (pc := 1510) dL_law_1510 (tgt := 1515) rfl ⟨fun c => ?_, fun c => ?_⟩
    · have h := h.1 c
      refine xw_iload hf (pc := 1515) dL_law_1515 1 rfl ?_
      refine xw_if_ne hf (pc := 1517) dL_law_1517 (c := r326 = 0) Iff.rfl (tgt := 1532) rfl ⟨fun c => ?_, fun c => ?_⟩
      · have h := h.1 c
        refine xw_aload_n hf (pc := 1520) dL_law_1520 rfl 5 rfl ?_
        refine xw_iconst hf (pc := 1521) dL_law_1521 (v := 0) (by decide) ?_
        refine xw_lald hf (pc := 1522) dL_law_1522 41 rfl h.1 ?_
        have h := h.2
        refine xw_iload hf (pc := 1523) dL_law_1523 0 rfl ?_
        refine xw_i2l hf (pc := 1525) dL_law_1525 ?_
        refine xw_lcmp hf (pc := 1526) dL_law_1526 ?_
        refine xw_if_eq hf (pc := 1527) dL_law_1527 (c := (w327 (0 : Int32).toNatClampNeg) = r330.toInt64) (lc_eq _ _) (tgt := 1532) rfl ⟨fun c => ?_, fun c => ?_⟩
        · have h := h.1 c
          refine xw_goto hf (pc := 1532) dL_law_1532 (tgt := 2681) rfl ?_
          refine xw_L [2, 3, 4, 5, 6] rfl ?_
          exact hK2681 _ _ _ _ hk _ _ _ _ _ h
        · have h := h.2 c
          refine xw_iconst hf (pc := 1530) dL_law_1530 (v := 0) (by decide) ?_
          exact h.elim
      · have h := h.2 c
        refine xw_goto hf (pc := 1532) dL_law_1532 (tgt := 2681) rfl ?_
        refine xw_L [2, 3, 4, 5, 6] rfl ?_
        exact hK2681 _ _ _ _ hk _ _ _ _ _ h
    · have h := h.2 c
      refine xw_iconst hf (pc := 1513) dL_law_1513 (v := 0) (by decide) ?_
      exact h.elim
set_option maxHeartbeats 4000000 in
set_option maxRecDepth 100000 in
theorem w_L_law_L1535 {x : Cx} {mc ms : Nat} (hf : fx x (rm_L_law) RL cL_law wsL_law) (hn : xn x = 8) {k0 n0 rc rs : Nat} (hk : k0 + rc ≤ (rm_L_law).cells ∧ n0 + rs ≤ (rm_L_law).slots) (a0 a1 a2 a3 a4 a5 a6 a7 a8 a9 a10 a11 a12 a13 a14 a15 a16 a17 a18 a19 a20 a21 a22 a23 a24 a25 a26 a27 a28 a29 a30 a31 a32 a33 a34 a35 a36 a37 a38 a39 ab : Nat) (z4 : Int32) (v0 : Int32) (v1 : Nat → Int64) (v6 : Nat → Int32) (v7 : Nat → Int32) (v20 : Int32) (v21 : Int32) (v22 : Int32) (v24 : Int32) (v25 : Nat → Int64) (v26 : Nat → Int32) (v27 : Nat → Int32) (v46 : Nat) (v47 : Nat → Int32) (v2 : Int32) (v3 : Nat → Int64) (v4 : Nat → Int32) (v8 : Int32) (v9 : Nat → Int32) (v10 : Nat → Int32) (v11 : Int32) (v12 : Int32) (v13 : Nat → Int32) (v14 : Int32) (v15 : Nat → Int64) (v16 : Int32) (v17 : Nat → Int64) (v18 : Nat → Int32) (v28 : Nat → Int32) (v29 : Nat → Int32) (v30 : Nat) (v31 : Nat) (v32 : Nat → Int64) (v33 : Nat) (v34 : Nat) (v35 : Nat → Int32) (v36 : Nat) (v37 : Nat) (v38 : Nat → Int32) (v42 : Nat → Int32) (v43 : Nat → Int32) (v45 : ZL) {K2681 : Nat → Nat → (Nat → Int32) → Int32 → Int32 → (Nat → Int32) → (Nat → Int32) → (Nat → Int32) → (Nat → Int64) → Prop} (hst : (xl x).stackTraces = false) (hX : sX x ab v46 v47)
    (n : Nat) (v5 : Nat → Int32) (v19 : Int32) (v23 : Int32) (v39 : Nat → Int32) (v40 : Nat → Int32) (v41 : Nat → Int32) (v44 : Nat → Int64) (h : P_L_law_L1535 z4 v0 v1 v6 v7 v20 v21 v22 v24 v25 v26 v27 v46 v47 K2681 n rc rs v5 v19 v23 v39 v40 v41 v44)
    (hK2681 : ∀ (k0 n0 rc rs : Nat), k0 + rc ≤ (rm_L_law).cells ∧ n0 + rs ≤ (rm_L_law).slots → ∀ (uv5 : Nat → Int32), ∀ (uv19 : Int32), ∀ (uv23 : Int32), ∀ (uv39 : Nat → Int32), ∀ (uv40 : Nat → Int32), ∀ (uv41 : Nat → Int32), ∀ (uv44 : Nat → Int64), K2681 rc rs uv5 uv19 uv23 uv39 uv40 uv41 uv44 → ww x (W_L_law (xg x) a0 a1 a2 a3 a4 a5 a6 a7 a8 a9 a10 a11 a12 a13 a14 a15 a16 a17 a18 a19 a20 a21 a22 a23 a24 a25 a26 a27 a28 a29 a30 a31 a32 a33 a34 a35 a36 a37 a38 a39 ab v0 v1 v2 v3 v4 uv5 v6 v7 v8 v9 v10 v11 v12 v13 v14 v15 v16 v17 v18 uv19 v20 v21 v22 uv23 v24 v25 v26 v27 v28 v29 v30 v31 v32 v33 v34 v35 v36 v37 v38 uv39 uv40 uv41 v42 v43 uv44 v46 v47 ++ ZP (xg x) a39 v45) [(0, .ref ab), (1, .ref a0), (2, .ref a27), (3, .ref a38), (4, .int z4)] k0 n0 2681 []) :
    ww x (W_L_law (xg x) a0 a1 a2 a3 a4 a5 a6 a7 a8 a9 a10 a11 a12 a13 a14 a15 a16 a17 a18 a19 a20 a21 a22 a23 a24 a25 a26 a27 a28 a29 a30 a31 a32 a33 a34 a35 a36 a37 a38 a39 ab v0 v1 v2 v3 v4 v5 v6 v7 v8 v9 v10 v11 v12 v13 v14 v15 v16 v17 v18 v19 v20 v21 v22 v23 v24 v25 v26 v27 v28 v29 v30 v31 v32 v33 v34 v35 v36 v37 v38 v39 v40 v41 v42 v43 v44 v46 v47 ++ ZP (xg x) a39 v45) [(0, .ref ab), (1, .ref a0), (2, .ref a27), (3, .ref a38), (4, .int z4)] k0 n0 1535 [] := by
  induction n generalizing k0 n0 rc rs v5 v19 v23 v39 v40 v41 v44 with
  | zero => exact h.elim
  | succ n ih =>
    unfold P_L_law_L1535 at h
    refine xw_aload_n hf (pc := 1535) dL_law_1535 rfl 1 rfl ?_
    refine xw_aload_n hf (pc := 1536) dL_law_1536 rfl 0 rfl ?_
    refine xw_iload hf (pc := 1537) dL_law_1537 4 rfl ?_
    refine xw_iconst hf (pc := 1539) dL_law_1539 (v := 1) (by decide) ?_
    refine xw_iadd hf (pc := 1540) dL_law_1540 ?_
    refine xw_sald hf hX dL_law_1541 h.1 ?_
    have h := h.2
    refine xw_i2l hf (pc := 1542) dL_law_1542 ?_
    refine xw_bipush hf (pc := 1543) dL_law_1543 (v := 32) (by decide) ?_
    refine xw_lshl hf (pc := 1545) dL_law_1545 ?_
    refine xw_aload_n hf (pc := 1546) dL_law_1546 rfl 0 rfl ?_
    refine xw_iload hf (pc := 1547) dL_law_1547 4 rfl ?_
    refine xw_iconst hf (pc := 1549) dL_law_1549 (v := 2) (by decide) ?_
    refine xw_iadd hf (pc := 1550) dL_law_1550 ?_
    refine xw_sald hf hX dL_law_1551 h.1 ?_
    have h := h.2
    refine xw_i2l hf (pc := 1552) dL_law_1552 ?_
    refine xw_ldc2 hf (pc := 1553) dL_law_1553 mw_L_law_0 ?_
    refine xw_land hf (pc := 1556) dL_law_1556 ?_
    refine xw_lor hf (pc := 1557) dL_law_1557 ?_
    refine xw_aload_n hf (pc := 1558) dL_law_1558 rfl 0 rfl ?_
    refine xw_iload hf (pc := 1559) dL_law_1559 4 rfl ?_
    refine xw_iconst hf (pc := 1561) dL_law_1561 (v := 3) (by decide) ?_
    refine xw_iadd hf (pc := 1562) dL_law_1562 ?_
    refine xw_sald hf hX dL_law_1563 h.1 ?_
    have h := h.2
    refine xw_aload_n hf (pc := 1564) dL_law_1564 rfl 3 rfl ?_
    obtain ⟨mc348, ms349, ⟨hb1, hb2⟩, h⟩ := h
    refine xw_callSW hf (pc := 1565) (nA := 4) (Xr := [(a4, .inr (7, [.ref a5, .int v2])), (a5, .inl (gJ (xg x), 60, .inr (.inl v3))), (a6, .inr (3, [.ref a7])), (a7, .inl (gI (xg x), 32, .inl v4)), (a13, .inr (1, [.ref a39, .ref a14, .ref a16, .int v8])), (a14, .inr (3, [.ref a15])), (a15, .inl (gI (xg x), 32, .inl v9)), (a16, .inr (3, [.ref a17])), (a17, .inl (gI (xg x), 32, .inl v10)), (a18, .inr (4, [.ref a19, .ref a21, .ref a23, .int v11, .int v12])), (a19, .inr (3, [.ref a20])), (a20, .inl (gI (xg x), 32, .inl v13)), (a21, .inr (7, [.ref a22, .int v14])), (a22, .inl (gJ (xg x), 60, .inr (.inl v15))), (a23, .inr (7, [.ref a24, .int v16])), (a24, .inl (gJ (xg x), 60, .inr (.inl v17))), (a25, .inr (3, [.ref a26])), (a26, .inl (gI (xg x), 32, .inl v18)), (a27, .inr (9, [.int v19, .ref a28, .int v20, .ref a29, .ref a30, .ref a31, .ref a32, .ref v30, .ref v33, .ref v36, .int v21, .int v22, .ref a33, .int v23, .ref a34, .ref a35, .ref a36, .ref a37, .int v24])), (a28, .inl (gJ (xg x), 60, .inr (.inl v25))), (a29, .inl (gI (xg x), 27, .inl v26)), (a30, .inl (gI (xg x), 27, .inl v27)), (a31, .inl (gI (xg x), 27, .inl v28)), (a32, .inl (gI (xg x), 27, .inl v29)), (v30, .inl (gJ (xg x), v31, .inr (.inl v32))), (v33, .inl (gI (xg x), v34, .inl v35)), (v36, .inl (gZ (xg x), v37, .inl v38)), (a33, .inl (gI (xg x), 12, .inl v39)), (a34, .inl (gI (xg x), 27, .inl v40)), (a35, .inl (gI (xg x), 27, .inl v41)), (a36, .inl (gI (xg x), 60, .inl v42)), (a37, .inl (gI (xg x), 3, .inl v43))] ++ ZP (xg x) a39 v45) (rest := []) (c_L_refusalOf (xl x) (xg x) hst a0 a1 a2 a3 a8 a9 a10 a11 a12 a38 a13 a18 a25 a4 a6 v0 v1 v5 v6 v7 v44 ((((v47 (z4 + 1).toNatClampNeg).toInt64) <<< ((32 : Int32).toInt64 &&& 63)) ||| (((v47 (z4 + 2).toNatClampNeg).toInt64) &&& 4294967295)) (v47 (z4 + 3).toNatClampNeg) h) gL_law_L_refusalOf (by rfl) rfl (by decide +kernel) ⟨⟨(Nat.le_of_ble_eq_true rfl), (Nat.le_of_ble_eq_true rfl)⟩, (Nat.le_trans (show k0 + 2 ≤ k0 + rc by omega) hk.1), (Nat.le_trans (show n0 + 12 ≤ n0 + rs by omega) hk.2)⟩ (Nat.le_of_ble_eq_true rfl) (sb_zr (sb_of [0, 1, 2, 3, 8, 9, 10, 11, 12, 41, 4, 5, 6, 7, 13, 14, 15, 16, 17, 18, 19, 20, 21, 22, 23, 24, 25, 26, 27, 28, 29, 30, 31, 32, 33, 34, 35, 36, 37, 38, 39, 40] rfl rfl)) rfl dL_law_1565 (fun v X1 hp => ?_)
    obtain ⟨r345, w346, w347, rfl, rfl, h⟩ := hp
    have hk : k0 + 2 + mc348 ≤ (rm_L_law).cells ∧ n0 + 12 + ms349 ≤ (rm_L_law).slots := ⟨Nat.le_trans (show k0 + 2 + mc348 ≤ k0 + rc by omega) hk.1, Nat.le_trans (show n0 + 12 + ms349 ≤ n0 + rs by omega) hk.2⟩
    refine xw_X (sb_rz (sb_of [0, 1, 2, 3, 10, 11, 12, 13, 4, 5, 6, 7, 8, 14, 15, 16, 17, 18, 19, 20, 21, 22, 23, 24, 25, 26, 27, 28, 29, 30, 31, 32, 33, 34, 35, 36, 37, 38, 39, 40, 41, 9] rfl rfl)) (show ww x (W_L_law (xg x) a0 a1 a2 a3 a4 a5 a6 a7 a8 a9 a10 a11 a12 a13 a14 a15 a16 a17 a18 a19 a20 a21 a22 a23 a24 a25 a26 a27 a28 a29 a30 a31 a32 a33 a34 a35 a36 a37 a38 a39 ab v0 v1 v2 v3 v4 w346 v6 v7 v8 v9 v10 v11 v12 v13 v14 v15 v16 v17 v18 v19 v20 v21 v22 v23 v24 v25 v26 v27 v28 v29 v30 v31 v32 v33 v34 v35 v36 v37 v38 v39 v40 v41 v42 v43 w347 v46 v47 ++ ZP (xg x) a39 v45) [(0, .ref ab), (1, .ref a0), (2, .ref a27), (3, .ref a38), (4, .int z4)] (k0 + 2) (n0 + 12) 1568 [.int r345] from ?_)
    refine xw_istore hf (pc := 1568) dL_law_1568 [(5, .int r345), (0, .ref ab), (1, .ref a0), (2, .ref a27), (3, .ref a38), (4, .int z4)] hn (by decide) rfl ?_
    refine xw_aload_n hf (pc := 1570) dL_law_1570 rfl 3 rfl ?_
    refine xw_aload_n hf (pc := 1571) dL_law_1571 rfl 1 rfl ?_
    refine xw_iload hf (pc := 1572) dL_law_1572 5 rfl ?_
    refine xw_iconst hf (pc := 1574) dL_law_1574 (v := 1) (by decide) ?_
    refine xw_iadd hf (pc := 1575) dL_law_1575 ?_
    refine xw_sald hf hX dL_law_1576 h.1 ?_
    have h := h.2
    refine xw_i2l hf (pc := 1577) dL_law_1577 ?_
    refine xw_bipush hf (pc := 1578) dL_law_1578 (v := 32) (by decide) ?_
    refine xw_lshl hf (pc := 1580) dL_law_1580 ?_
    refine xw_aload_n hf (pc := 1581) dL_law_1581 rfl 1 rfl ?_
    refine xw_iload hf (pc := 1582) dL_law_1582 5 rfl ?_
    refine xw_iconst hf (pc := 1584) dL_law_1584 (v := 2) (by decide) ?_
    refine xw_iadd hf (pc := 1585) dL_law_1585 ?_
    refine xw_sald hf hX dL_law_1586 h.1 ?_
    have h := h.2
    refine xw_i2l hf (pc := 1587) dL_law_1587 ?_
    refine xw_ldc2 hf (pc := 1588) dL_law_1588 mw_L_law_0 ?_
    refine xw_land hf (pc := 1591) dL_law_1591 ?_
    refine xw_lor hf (pc := 1592) dL_law_1592 ?_
    refine xw_aload_n hf (pc := 1593) dL_law_1593 rfl 1 rfl ?_
    refine xw_iload hf (pc := 1594) dL_law_1594 5 rfl ?_
    refine xw_iconst hf (pc := 1596) dL_law_1596 (v := 3) (by decide) ?_
    refine xw_iadd hf (pc := 1597) dL_law_1597 ?_
    refine xw_sald hf hX dL_law_1598 h.1 ?_
    have h := h.2
    refine xw_callV hf (pc := 1599) (nA := 2) (Xr := [(a0, .inr (8, [.ref a1, .ref a8, .ref a13, .ref a18, .ref a25])), (a1, .inr (2, [.ref a2, .ref a4, .ref a6])), (a2, .inr (7, [.ref a3, .int v0])), (a3, .inl (gJ (xg x), 60, .inr (.inl v1))), (a4, .inr (7, [.ref a5, .int v2])), (a5, .inl (gJ (xg x), 60, .inr (.inl v3))), (a6, .inr (3, [.ref a7])), (a7, .inl (gI (xg x), 32, .inl v4)), (a8, .inr (6, [.ref a9, .ref a11, .ref a12])), (a9, .inr (3, [.ref a10])), (a10, .inl (gI (xg x), 32, .inl w346)), (a11, .inl (gI (xg x), 32, .inl v6)), (a12, .inl (gI (xg x), 32, .inl v7)), (a13, .inr (1, [.ref a39, .ref a14, .ref a16, .int v8])), (a14, .inr (3, [.ref a15])), (a15, .inl (gI (xg x), 32, .inl v9)), (a16, .inr (3, [.ref a17])), (a17, .inl (gI (xg x), 32, .inl v10)), (a18, .inr (4, [.ref a19, .ref a21, .ref a23, .int v11, .int v12])), (a19, .inr (3, [.ref a20])), (a20, .inl (gI (xg x), 32, .inl v13)), (a21, .inr (7, [.ref a22, .int v14])), (a22, .inl (gJ (xg x), 60, .inr (.inl v15))), (a23, .inr (7, [.ref a24, .int v16])), (a24, .inl (gJ (xg x), 60, .inr (.inl v17))), (a25, .inr (3, [.ref a26])), (a26, .inl (gI (xg x), 32, .inl v18)), (a31, .inl (gI (xg x), 27, .inl v28)), (a32, .inl (gI (xg x), 27, .inl v29)), (v30, .inl (gJ (xg x), v31, .inr (.inl v32))), (v33, .inl (gI (xg x), v34, .inl v35)), (v36, .inl (gZ (xg x), v37, .inl v38)), (a36, .inl (gI (xg x), 60, .inl v42)), (a37, .inl (gI (xg x), 3, .inl v43)), (a38, .inl (gJ (xg x), 1, .inr (.inl w347)))] ++ ZP (xg x) a39 v45) (rest := []) (T := TX9) (c_X9_refusalOf (xl x) (xg x) a27 a28 a29 a30 a33 a34 a35 a31 a32 v30 v33 v36 a36 a37 v19 v20 v21 v22 v23 v24 v25 v26 v27 v39 v40 v41 ((((v47 (z4 + 1).toNatClampNeg).toInt64) <<< ((32 : Int32).toInt64 &&& 63)) ||| (((v47 (z4 + 2).toNatClampNeg).toInt64) &&& 4294967295)) (v47 (z4 + 3).toNatClampNeg) h) gL_law_X9_refusalOf (by rfl) rfl rfl (by decide +kernel) ⟨⟨(Nat.le_of_ble_eq_true rfl), (Nat.le_of_ble_eq_true rfl)⟩, (Nat.le_trans (Nat.le_add_right _ _) hk.1), (Nat.le_trans (Nat.le_add_right _ _) hk.2)⟩ (Nat.le_of_ble_eq_true rfl) rfl rfl (sb_zr (sb_of [27, 28, 29, 30, 36, 37, 38, 0, 1, 2, 3, 4, 5, 6, 7, 8, 9, 10, 11, 12, 13, 14, 15, 16, 17, 18, 19, 20, 21, 22, 23, 24, 25, 26, 31, 32, 33, 34, 35, 39, 40, 41] rfl rfl)) rfl dL_law_1599 (fun v X1 hp => ?_)
    obtain ⟨r350, w351, w352, w353, w354, w355, rfl, rfl, h⟩ := hp
    refine xw_X (sb_rz (sb_of [7, 8, 9, 10, 11, 12, 13, 14, 15, 16, 17, 18, 19, 20, 21, 22, 23, 24, 25, 26, 27, 28, 29, 30, 31, 32, 33, 0, 1, 2, 3, 34, 35, 36, 37, 38, 4, 5, 6, 39, 40, 41] rfl rfl)) (show ww x (W_L_law (xg x) a0 a1 a2 a3 a4 a5 a6 a7 a8 a9 a10 a11 a12 a13 a14 a15 a16 a17 a18 a19 a20 a21 a22 a23 a24 a25 a26 a27 a28 a29 a30 a31 a32 a33 a34 a35 a36 a37 a38 a39 ab v0 v1 v2 v3 v4 w346 v6 v7 v8 v9 v10 v11 v12 v13 v14 v15 v16 v17 v18 w351 v20 v21 v22 w352 v24 v25 v26 v27 v28 v29 v30 v31 v32 v33 v34 v35 v36 v37 v38 w353 w354 w355 v42 v43 w347 v46 v47 ++ ZP (xg x) a39 v45) [(5, .int r345), (0, .ref ab), (1, .ref a0), (2, .ref a27), (3, .ref a38), (4, .int z4)] (k0 + 2) (n0 + 12) 1602 [.int r350] from ?_)
    refine xw_istore hf (pc := 1602) dL_law_1602 [(6, .int r350), (5, .int r345), (0, .ref ab), (1, .ref a0), (2, .ref a27), (3, .ref a38), (4, .int z4)] hn (by decide) rfl ?_
    refine xw_aload_n hf (pc := 1604) dL_law_1604 rfl 4 rfl ?_
    refine xw_callV hf (pc := 1605) (nA := 0) (Xr := [(a0, .inr (8, [.ref a1, .ref a8, .ref a13, .ref a18, .ref a25])), (a1, .inr (2, [.ref a2, .ref a4, .ref a6])), (a2, .inr (7, [.ref a3, .int v0])), (a3, .inl (gJ (xg x), 60, .inr (.inl v1))), (a4, .inr (7, [.ref a5, .int v2])), (a5, .inl (gJ (xg x), 60, .inr (.inl v3))), (a6, .inr (3, [.ref a7])), (a7, .inl (gI (xg x), 32, .inl v4)), (a8, .inr (6, [.ref a9, .ref a11, .ref a12])), (a9, .inr (3, [.ref a10])), (a10, .inl (gI (xg x), 32, .inl w346)), (a11, .inl (gI (xg x), 32, .inl v6)), (a12, .inl (gI (xg x), 32, .inl v7)), (a13, .inr (1, [.ref a39, .ref a14, .ref a16, .int v8])), (a14, .inr (3, [.ref a15])), (a15, .inl (gI (xg x), 32, .inl v9)), (a16, .inr (3, [.ref a17])), (a17, .inl (gI (xg x), 32, .inl v10)), (a18, .inr (4, [.ref a19, .ref a21, .ref a23, .int v11, .int v12])), (a19, .inr (3, [.ref a20])), (a20, .inl (gI (xg x), 32, .inl v13)), (a21, .inr (7, [.ref a22, .int v14])), (a22, .inl (gJ (xg x), 60, .inr (.inl v15))), (a23, .inr (7, [.ref a24, .int v16])), (a24, .inl (gJ (xg x), 60, .inr (.inl v17))), (a25, .inr (3, [.ref a26])), (a26, .inl (gI (xg x), 32, .inl v18)), (a28, .inl (gJ (xg x), 60, .inr (.inl v25))), (a29, .inl (gI (xg x), 27, .inl v26)), (a30, .inl (gI (xg x), 27, .inl v27)), (a31, .inl (gI (xg x), 27, .inl v28)), (a32, .inl (gI (xg x), 27, .inl v29)), (v30, .inl (gJ (xg x), v31, .inr (.inl v32))), (v33, .inl (gI (xg x), v34, .inl v35)), (v36, .inl (gZ (xg x), v37, .inl v38)), (a33, .inl (gI (xg x), 12, .inl w353)), (a34, .inl (gI (xg x), 27, .inl w354)), (a35, .inl (gI (xg x), 27, .inl w355)), (a36, .inl (gI (xg x), 60, .inl v42)), (a37, .inl (gI (xg x), 3, .inl v43)), (a38, .inl (gJ (xg x), 1, .inr (.inl w347)))] ++ ZP (xg x) a39 v45) (rest := []) (T := TX9) (c_X9_thrown (xl x) (xg x) a27 a28 a29 a30 a31 a32 v30 v33 v36 a33 a34 a35 a36 a37 w351 v20 v21 v22 w352 v24 h) gL_law_X9_thrown (by rfl) rfl rfl (by decide +kernel) ⟨⟨(Nat.le_of_ble_eq_true rfl), (Nat.le_of_ble_eq_true rfl)⟩, (Nat.le_trans (Nat.le_add_right _ _) hk.1), (Nat.le_trans (Nat.le_add_right _ _) hk.2)⟩ (Nat.le_of_ble_eq_true rfl) rfl rfl (sb_zr (sb_of [27, 0, 1, 2, 3, 4, 5, 6, 7, 8, 9, 10, 11, 12, 13, 14, 15, 16, 17, 18, 19, 20, 21, 22, 23, 24, 25, 26, 28, 29, 30, 31, 32, 33, 34, 35, 36, 37, 38, 39, 40, 41] rfl rfl)) rfl dL_law_1605 (fun v X1 hp => ?_)
    obtain ⟨r356, rfl, rfl, h⟩ := hp
    refine xw_X (sb_rz (sb_of [1, 2, 3, 4, 5, 6, 7, 8, 9, 10, 11, 12, 13, 14, 15, 16, 17, 18, 19, 20, 21, 22, 23, 24, 25, 26, 27, 0, 28, 29, 30, 31, 32, 33, 34, 35, 36, 37, 38, 39, 40, 41] rfl rfl)) (show ww x (W_L_law (xg x) a0 a1 a2 a3 a4 a5 a6 a7 a8 a9 a10 a11 a12 a13 a14 a15 a16 a17 a18 a19 a20 a21 a22 a23 a24 a25 a26 a27 a28 a29 a30 a31 a32 a33 a34 a35 a36 a37 a38 a39 ab v0 v1 v2 v3 v4 w346 v6 v7 v8 v9 v10 v11 v12 v13 v14 v15 v16 v17 v18 w351 v20 v21 v22 w352 v24 v25 v26 v27 v28 v29 v30 v31 v32 v33 v34 v35 v36 v37 v38 w353 w354 w355 v42 v43 w347 v46 v47 ++ ZP (xg x) a39 v45) [(6, .int r350), (5, .int r345), (0, .ref ab), (1, .ref a0), (2, .ref a27), (3, .ref a38), (4, .int z4)] (k0 + 2) (n0 + 12) 1608 [.int r356] from ?_)
    refine xw_iload hf (pc := 1608) dL_law_1608 1 rfl ?_
    refine xw_icmp_eq hf (pc := 1610) dL_law_1610 (tgt := 1615) rfl ⟨fun c => ?_, fun c => ?_⟩
    · have h := h.1 c
      refine xw_iload hf (pc := 1615) dL_law_1615 1 rfl ?_
      refine xw_if_ne hf (pc := 1617) dL_law_1617 (c := r345 = 0) Iff.rfl (tgt := 1632) rfl ⟨fun c => ?_, fun c => ?_⟩
      · have h := h.1 c
        refine xw_aload_n hf (pc := 1620) dL_law_1620 rfl 5 rfl ?_
        refine xw_iconst hf (pc := 1621) dL_law_1621 (v := 0) (by decide) ?_
        refine xw_lald hf (pc := 1622) dL_law_1622 41 rfl h.1 ?_
        have h := h.2
        refine xw_iload hf (pc := 1623) dL_law_1623 0 rfl ?_
        refine xw_i2l hf (pc := 1625) dL_law_1625 ?_
        refine xw_lcmp hf (pc := 1626) dL_law_1626 ?_
        refine xw_if_eq hf (pc := 1627) dL_law_1627 (c := (w347 (0 : Int32).toNatClampNeg) = r350.toInt64) (lc_eq _ _) (tgt := 1632) rfl ⟨fun c => ?_, fun c => ?_⟩
        · have h := h.1 c
          refine xw_goto hf (pc := 1632) dL_law_1632 (tgt := 2681) rfl ?_
          refine xw_L [2, 3, 4, 5, 6] rfl ?_
          exact hK2681 _ _ _ _ hk _ _ _ _ _ _ _ h
        · have h := h.2 c
          refine xw_iconst hf (pc := 1630) dL_law_1630 (v := 0) (by decide) ?_
          exact h.elim
      · have h := h.2 c
        refine xw_goto hf (pc := 1632) dL_law_1632 (tgt := 2681) rfl ?_
        refine xw_L [2, 3, 4, 5, 6] rfl ?_
        exact hK2681 _ _ _ _ hk _ _ _ _ _ _ _ h
    · have h := h.2 c
      refine xw_iconst hf (pc := 1613) dL_law_1613 (v := 0) (by decide) ?_
      exact h.elim
set_option maxHeartbeats 4000000 in
set_option maxRecDepth 100000 in
theorem w_L_law_L1635 {x : Cx} {mc ms : Nat} (hf : fx x (rm_L_law) RL cL_law wsL_law) (hn : xn x = 8) {k0 n0 rc rs : Nat} (hk : k0 + rc ≤ (rm_L_law).cells ∧ n0 + rs ≤ (rm_L_law).slots) (a0 a1 a2 a3 a4 a5 a6 a7 a8 a9 a10 a11 a12 a13 a14 a15 a16 a17 a18 a19 a20 a21 a22 a23 a24 a25 a26 a27 a28 a29 a30 a31 a32 a33 a34 a35 a36 a37 a38 a39 ab : Nat) (z4 : Int32) (v0 : Int32) (v1 : Nat → Int64) (v6 : Nat → Int32) (v7 : Nat → Int32) (v20 : Int32) (v24 : Int32) (v25 : Nat → Int64) (v27 : Nat → Int32) (v46 : Nat) (v47 : Nat → Int32) (v2 : Int32) (v3 : Nat → Int64) (v4 : Nat → Int32) (v9 : Nat → Int32) (v11 : Int32) (v12 : Int32) (v13 : Nat → Int32) (v14 : Int32) (v15 : Nat → Int64) (v16 : Int32) (v17 : Nat → Int64) (v18 : Nat → Int32) (v28 : Nat → Int32) (v42 : Nat → Int32) (v43 : Nat → Int32) {K2681 : Nat → Nat → (Nat → Int32) → Int32 → (Nat → Int32) → Int32 → Int32 → Int32 → Int32 → (Nat → Int32) → (Nat → Int32) → Nat → Nat → (Nat → Int64) → Nat → Nat → (Nat → Int32) → Nat → Nat → (Nat → Int32) → (Nat → Int32) → (Nat → Int32) → (Nat → Int32) → (Nat → Int64) → ZL → Prop} (hst : (xl x).stackTraces = false) (hX : sX x ab v46 v47)
    (n : Nat) (v5 : Nat → Int32) (v8 : Int32) (v10 : Nat → Int32) (v19 : Int32) (v21 : Int32) (v22 : Int32) (v23 : Int32) (v26 : Nat → Int32) (v29 : Nat → Int32) (v30 : Nat) (v31 : Nat) (v32 : Nat → Int64) (v33 : Nat) (v34 : Nat) (v35 : Nat → Int32) (v36 : Nat) (v37 : Nat) (v38 : Nat → Int32) (v39 : Nat → Int32) (v40 : Nat → Int32) (v41 : Nat → Int32) (v44 : Nat → Int64) (v45 : ZL) (h : P_L_law_L1635 z4 v0 v1 v6 v7 v20 v24 v25 v27 v46 v47 K2681 n rc rs v5 v8 v10 v19 v21 v22 v23 v26 v29 v30 v31 v32 v33 v34 v35 v36 v37 v38 v39 v40 v41 v44 v45)
    (hK2681 : ∀ (k0 n0 rc rs : Nat), k0 + rc ≤ (rm_L_law).cells ∧ n0 + rs ≤ (rm_L_law).slots → ∀ (uv5 : Nat → Int32), ∀ (uv8 : Int32), ∀ (uv10 : Nat → Int32), ∀ (uv19 : Int32), ∀ (uv21 : Int32), ∀ (uv22 : Int32), ∀ (uv23 : Int32), ∀ (uv26 : Nat → Int32), ∀ (uv29 : Nat → Int32), ∀ (uv30 : Nat), ∀ (uv31 : Nat), ∀ (uv32 : Nat → Int64), ∀ (uv33 : Nat), ∀ (uv34 : Nat), ∀ (uv35 : Nat → Int32), ∀ (uv36 : Nat), ∀ (uv37 : Nat), ∀ (uv38 : Nat → Int32), ∀ (uv39 : Nat → Int32), ∀ (uv40 : Nat → Int32), ∀ (uv41 : Nat → Int32), ∀ (uv44 : Nat → Int64), ∀ (uv45 : ZL), K2681 rc rs uv5 uv8 uv10 uv19 uv21 uv22 uv23 uv26 uv29 uv30 uv31 uv32 uv33 uv34 uv35 uv36 uv37 uv38 uv39 uv40 uv41 uv44 uv45 → ww x (W_L_law (xg x) a0 a1 a2 a3 a4 a5 a6 a7 a8 a9 a10 a11 a12 a13 a14 a15 a16 a17 a18 a19 a20 a21 a22 a23 a24 a25 a26 a27 a28 a29 a30 a31 a32 a33 a34 a35 a36 a37 a38 a39 ab v0 v1 v2 v3 v4 uv5 v6 v7 uv8 v9 uv10 v11 v12 v13 v14 v15 v16 v17 v18 uv19 v20 uv21 uv22 uv23 v24 v25 uv26 v27 v28 uv29 uv30 uv31 uv32 uv33 uv34 uv35 uv36 uv37 uv38 uv39 uv40 uv41 v42 v43 uv44 v46 v47 ++ ZP (xg x) a39 uv45) [(0, .ref ab), (1, .ref a0), (2, .ref a27), (3, .ref a38), (4, .int z4)] k0 n0 2681 []) :
    ww x (W_L_law (xg x) a0 a1 a2 a3 a4 a5 a6 a7 a8 a9 a10 a11 a12 a13 a14 a15 a16 a17 a18 a19 a20 a21 a22 a23 a24 a25 a26 a27 a28 a29 a30 a31 a32 a33 a34 a35 a36 a37 a38 a39 ab v0 v1 v2 v3 v4 v5 v6 v7 v8 v9 v10 v11 v12 v13 v14 v15 v16 v17 v18 v19 v20 v21 v22 v23 v24 v25 v26 v27 v28 v29 v30 v31 v32 v33 v34 v35 v36 v37 v38 v39 v40 v41 v42 v43 v44 v46 v47 ++ ZP (xg x) a39 v45) [(0, .ref ab), (1, .ref a0), (2, .ref a27), (3, .ref a38), (4, .int z4)] k0 n0 1635 [] := by
  induction n generalizing k0 n0 rc rs v5 v8 v10 v19 v21 v22 v23 v26 v29 v30 v31 v32 v33 v34 v35 v36 v37 v38 v39 v40 v41 v44 v45 with
  | zero => exact h.elim
  | succ n ih =>
    unfold P_L_law_L1635 at h
    refine xw_aload_n hf (pc := 1635) dL_law_1635 rfl 1 rfl ?_
    refine xw_aload_n hf (pc := 1636) dL_law_1636 rfl 0 rfl ?_
    refine xw_iload hf (pc := 1637) dL_law_1637 4 rfl ?_
    refine xw_iconst hf (pc := 1639) dL_law_1639 (v := 1) (by decide) ?_
    refine xw_iadd hf (pc := 1640) dL_law_1640 ?_
    refine xw_sald hf hX dL_law_1641 h.1 ?_
    have h := h.2
    refine xw_i2l hf (pc := 1642) dL_law_1642 ?_
    refine xw_bipush hf (pc := 1643) dL_law_1643 (v := 32) (by decide) ?_
    refine xw_lshl hf (pc := 1645) dL_law_1645 ?_
    refine xw_aload_n hf (pc := 1646) dL_law_1646 rfl 0 rfl ?_
    refine xw_iload hf (pc := 1647) dL_law_1647 4 rfl ?_
    refine xw_iconst hf (pc := 1649) dL_law_1649 (v := 2) (by decide) ?_
    refine xw_iadd hf (pc := 1650) dL_law_1650 ?_
    refine xw_sald hf hX dL_law_1651 h.1 ?_
    have h := h.2
    refine xw_i2l hf (pc := 1652) dL_law_1652 ?_
    refine xw_ldc2 hf (pc := 1653) dL_law_1653 mw_L_law_0 ?_
    refine xw_land hf (pc := 1656) dL_law_1656 ?_
    refine xw_lor hf (pc := 1657) dL_law_1657 ?_
    refine xw_aload_n hf (pc := 1658) dL_law_1658 rfl 0 rfl ?_
    refine xw_iload hf (pc := 1659) dL_law_1659 4 rfl ?_
    refine xw_iconst hf (pc := 1661) dL_law_1661 (v := 3) (by decide) ?_
    refine xw_iadd hf (pc := 1662) dL_law_1662 ?_
    refine xw_sald hf hX dL_law_1663 h.1 ?_
    have h := h.2
    refine xw_aload_n hf (pc := 1664) dL_law_1664 rfl 3 rfl ?_
    obtain ⟨mc374, ms375, mc376, ms377, ⟨hb1, hb2⟩, h⟩ := h
    refine xw_callSW hf (pc := 1665) (nA := 4) (Xr := [(a4, .inr (7, [.ref a5, .int v2])), (a5, .inl (gJ (xg x), 60, .inr (.inl v3))), (a6, .inr (3, [.ref a7])), (a7, .inl (gI (xg x), 32, .inl v4)), (a14, .inr (3, [.ref a15])), (a15, .inl (gI (xg x), 32, .inl v9)), (a18, .inr (4, [.ref a19, .ref a21, .ref a23, .int v11, .int v12])), (a19, .inr (3, [.ref a20])), (a20, .inl (gI (xg x), 32, .inl v13)), (a21, .inr (7, [.ref a22, .int v14])), (a22, .inl (gJ (xg x), 60, .inr (.inl v15))), (a23, .inr (7, [.ref a24, .int v16])), (a24, .inl (gJ (xg x), 60, .inr (.inl v17))), (a25, .inr (3, [.ref a26])), (a26, .inl (gI (xg x), 32, .inl v18)), (a27, .inr (9, [.int v19, .ref a28, .int v20, .ref a29, .ref a30, .ref a31, .ref a32, .ref v30, .ref v33, .ref v36, .int v21, .int v22, .ref a33, .int v23, .ref a34, .ref a35, .ref a36, .ref a37, .int v24])), (a28, .inl (gJ (xg x), 60, .inr (.inl v25))), (a29, .inl (gI (xg x), 27, .inl v26)), (a30, .inl (gI (xg x), 27, .inl v27)), (a31, .inl (gI (xg x), 27, .inl v28)), (a32, .inl (gI (xg x), 27, .inl v29)), (v30, .inl (gJ (xg x), v31, .inr (.inl v32))), (v33, .inl (gI (xg x), v34, .inl v35)), (v36, .inl (gZ (xg x), v37, .inl v38)), (a33, .inl (gI (xg x), 12, .inl v39)), (a34, .inl (gI (xg x), 27, .inl v40)), (a35, .inl (gI (xg x), 27, .inl v41)), (a36, .inl (gI (xg x), 60, .inl v42)), (a37, .inl (gI (xg x), 3, .inl v43))]) (rest := []) (c_L_sell (xl x) (xg x) hst a0 a1 a2 a3 a8 a9 a10 a11 a12 a13 a16 a17 a38 a39 a18 a25 a4 a6 a14 v0 v1 v5 v6 v7 v8 v10 v44 v45 ((((v47 (z4 + 1).toNatClampNeg).toInt64) <<< ((32 : Int32).toInt64 &&& 63)) ||| (((v47 (z4 + 2).toNatClampNeg).toInt64) &&& 4294967295)) (v47 (z4 + 3).toNatClampNeg) h) gL_law_L_sell (by rfl) rfl (by decide +kernel) ⟨⟨(Nat.le_of_ble_eq_true rfl), (Nat.le_of_ble_eq_true rfl)⟩, (Nat.le_trans (show k0 + mc374 ≤ k0 + rc by omega) hk.1), (Nat.le_trans (show n0 + ms375 ≤ n0 + rs by omega) hk.2)⟩ (Nat.le_of_ble_eq_true rfl) (sb_zc (sb_of [0, 1, 2, 3, 8, 9, 10, 11, 12, 13, 16, 17, 41, 4, 5, 6, 7, 14, 15, 18, 19, 20, 21, 22, 23, 24, 25, 26, 27, 28, 29, 30, 31, 32, 33, 34, 35, 36, 37, 38, 39, 40] rfl rfl)) rfl dL_law_1665 (fun v X1 hp => ?_)
    obtain ⟨r368, w369, w370, w371, w372, w373, rfl, rfl, h⟩ := hp
    have hk : k0 + mc374 + mc376 ≤ (rm_L_law).cells ∧ n0 + ms375 + ms377 ≤ (rm_L_law).slots := ⟨Nat.le_trans (show k0 + mc374 + mc376 ≤ k0 + rc by omega) hk.1, Nat.le_trans (show n0 + ms375 + ms377 ≤ n0 + rs by omega) hk.2⟩
    refine xw_X (sb_cz (sb_of [0, 1, 2, 3, 13, 14, 15, 16, 4, 5, 6, 7, 8, 9, 17, 18, 10, 11, 19, 20, 21, 22, 23, 24, 25, 26, 27, 28, 29, 30, 31, 32, 33, 34, 35, 36, 37, 38, 39, 40, 41, 12] rfl rfl)) (show ww x (W_L_law (xg x) a0 a1 a2 a3 a4 a5 a6 a7 a8 a9 a10 a11 a12 a13 a14 a15 a16 a17 a18 a19 a20 a21 a22 a23 a24 a25 a26 a27 a28 a29 a30 a31 a32 a33 a34 a35 a36 a37 a38 a39 ab v0 v1 v2 v3 v4 w369 v6 v7 w370 v9 w371 v11 v12 v13 v14 v15 v16 v17 v18 v19 v20 v21 v22 v23 v24 v25 v26 v27 v28 v29 v30 v31 v32 v33 v34 v35 v36 v37 v38 v39 v40 v41 v42 v43 w372 v46 v47 ++ ZP (xg x) a39 w373) [(0, .ref ab), (1, .ref a0), (2, .ref a27), (3, .ref a38), (4, .int z4)] (k0 + mc374) (n0 + ms375) 1668 [.int r368] from ?_)
    refine xw_istore hf (pc := 1668) dL_law_1668 [(5, .int r368), (0, .ref ab), (1, .ref a0), (2, .ref a27), (3, .ref a38), (4, .int z4)] hn (by decide) rfl ?_
    refine xw_aload_n hf (pc := 1670) dL_law_1670 rfl 3 rfl ?_
    refine xw_aload_n hf (pc := 1671) dL_law_1671 rfl 1 rfl ?_
    refine xw_iload hf (pc := 1672) dL_law_1672 5 rfl ?_
    refine xw_iconst hf (pc := 1674) dL_law_1674 (v := 1) (by decide) ?_
    refine xw_iadd hf (pc := 1675) dL_law_1675 ?_
    refine xw_sald hf hX dL_law_1676 h.1 ?_
    have h := h.2
    refine xw_i2l hf (pc := 1677) dL_law_1677 ?_
    refine xw_bipush hf (pc := 1678) dL_law_1678 (v := 32) (by decide) ?_
    refine xw_lshl hf (pc := 1680) dL_law_1680 ?_
    refine xw_aload_n hf (pc := 1681) dL_law_1681 rfl 1 rfl ?_
    refine xw_iload hf (pc := 1682) dL_law_1682 5 rfl ?_
    refine xw_iconst hf (pc := 1684) dL_law_1684 (v := 2) (by decide) ?_
    refine xw_iadd hf (pc := 1685) dL_law_1685 ?_
    refine xw_sald hf hX dL_law_1686 h.1 ?_
    have h := h.2
    refine xw_i2l hf (pc := 1687) dL_law_1687 ?_
    refine xw_ldc2 hf (pc := 1688) dL_law_1688 mw_L_law_0 ?_
    refine xw_land hf (pc := 1691) dL_law_1691 ?_
    refine xw_lor hf (pc := 1692) dL_law_1692 ?_
    refine xw_aload_n hf (pc := 1693) dL_law_1693 rfl 1 rfl ?_
    refine xw_iload hf (pc := 1694) dL_law_1694 5 rfl ?_
    refine xw_iconst hf (pc := 1696) dL_law_1696 (v := 3) (by decide) ?_
    refine xw_iadd hf (pc := 1697) dL_law_1697 ?_
    refine xw_sald hf hX dL_law_1698 h.1 ?_
    have h := h.2
    obtain ⟨mc397, ms398, mc399, ms400, ⟨hb1, hb2⟩, h⟩ := h
    refine xw_callV hf (pc := 1699) (nA := 2) (Xr := [(a0, .inr (8, [.ref a1, .ref a8, .ref a13, .ref a18, .ref a25])), (a1, .inr (2, [.ref a2, .ref a4, .ref a6])), (a2, .inr (7, [.ref a3, .int v0])), (a3, .inl (gJ (xg x), 60, .inr (.inl v1))), (a4, .inr (7, [.ref a5, .int v2])), (a5, .inl (gJ (xg x), 60, .inr (.inl v3))), (a6, .inr (3, [.ref a7])), (a7, .inl (gI (xg x), 32, .inl v4)), (a8, .inr (6, [.ref a9, .ref a11, .ref a12])), (a9, .inr (3, [.ref a10])), (a10, .inl (gI (xg x), 32, .inl w369)), (a11, .inl (gI (xg x), 32, .inl v6)), (a12, .inl (gI (xg x), 32, .inl v7)), (a13, .inr (1, [.ref a39, .ref a14, .ref a16, .int w370])), (a14, .inr (3, [.ref a15])), (a15, .inl (gI (xg x), 32, .inl v9)), (a16, .inr (3, [.ref a17])), (a17, .inl (gI (xg x), 32, .inl w371)), (a18, .inr (4, [.ref a19, .ref a21, .ref a23, .int v11, .int v12])), (a19, .inr (3, [.ref a20])), (a20, .inl (gI (xg x), 32, .inl v13)), (a21, .inr (7, [.ref a22, .int v14])), (a22, .inl (gJ (xg x), 60, .inr (.inl v15))), (a23, .inr (7, [.ref a24, .int v16])), (a24, .inl (gJ (xg x), 60, .inr (.inl v17))), (a25, .inr (3, [.ref a26])), (a26, .inl (gI (xg x), 32, .inl v18)), (a31, .inl (gI (xg x), 27, .inl v28)), (a36, .inl (gI (xg x), 60, .inl v42)), (a37, .inl (gI (xg x), 3, .inl v43)), (a38, .inl (gJ (xg x), 1, .inr (.inl w372)))] ++ ZP (xg x) a39 w373) (rest := []) (T := TX9) (c_X9_sell (xl x) (xg x) a27 a28 a29 a30 a32 a33 a34 a35 a31 a36 a37 v19 v20 v21 v22 v23 v24 v25 v26 v27 v29 v30 v31 v32 v33 v34 v35 v36 v37 v38 v39 v40 v41 ((((v47 (z4 + 1).toNatClampNeg).toInt64) <<< ((32 : Int32).toInt64 &&& 63)) ||| (((v47 (z4 + 2).toNatClampNeg).toInt64) &&& 4294967295)) (v47 (z4 + 3).toNatClampNeg) h) gL_law_X9_sell (by rfl) rfl rfl (by decide +kernel) ⟨⟨(Nat.le_of_ble_eq_true rfl), (Nat.le_of_ble_eq_true rfl)⟩, (Nat.le_trans (show k0 + mc374 + mc397 ≤ k0 + mc374 + mc376 by omega) hk.1), (Nat.le_trans (show n0 + ms375 + ms398 ≤ n0 + ms375 + ms377 by omega) hk.2)⟩ (Nat.le_of_ble_eq_true rfl) rfl rfl (sb_zr (sb_of [27, 28, 29, 30, 32, 33, 34, 35, 36, 37, 38, 0, 1, 2, 3, 4, 5, 6, 7, 8, 9, 10, 11, 12, 13, 14, 15, 16, 17, 18, 19, 20, 21, 22, 23, 24, 25, 26, 31, 39, 40, 41] rfl rfl)) rfl dL_law_1699 (fun v X1 hp => ?_)
    obtain ⟨r378, w379, w380, w381, w382, w383, w384, w385, w386, w387, w388, w389, w390, w391, w392, w393, w394, w395, w396, rfl, rfl, h⟩ := hp
    have hk : k0 + mc374 + mc397 + mc399 ≤ (rm_L_law).cells ∧ n0 + ms375 + ms398 + ms400 ≤ (rm_L_law).slots := ⟨Nat.le_trans (show k0 + mc374 + mc397 + mc399 ≤ k0 + mc374 + mc376 by omega) hk.1, Nat.le_trans (show n0 + ms375 + ms398 + ms400 ≤ n0 + ms375 + ms377 by omega) hk.2⟩
    refine xw_X (sb_rz (sb_of [11, 12, 13, 14, 15, 16, 17, 18, 19, 20, 21, 22, 23, 24, 25, 26, 27, 28, 29, 30, 31, 32, 33, 34, 35, 36, 37, 0, 1, 2, 3, 38, 4, 5, 6, 7, 8, 9, 10, 39, 40, 41] rfl rfl)) (show ww x (W_L_law (xg x) a0 a1 a2 a3 a4 a5 a6 a7 a8 a9 a10 a11 a12 a13 a14 a15 a16 a17 a18 a19 a20 a21 a22 a23 a24 a25 a26 a27 a28 a29 a30 a31 a32 a33 a34 a35 a36 a37 a38 a39 ab v0 v1 v2 v3 v4 w369 v6 v7 w370 v9 w371 v11 v12 v13 v14 v15 v16 v17 v18 w379 v20 w380 w381 w382 v24 v25 w383 v27 v28 w384 w385 w386 w387 w388 w389 w390 w391 w392 w393 w394 w395 w396 v42 v43 w372 v46 v47 ++ ZP (xg x) a39 w373) [(5, .int r368), (0, .ref ab), (1, .ref a0), (2, .ref a27), (3, .ref a38), (4, .int z4)] (k0 + mc374 + mc397) (n0 + ms375 + ms398) 1702 [.int r378] from ?_)
    refine xw_istore hf (pc := 1702) dL_law_1702 [(6, .int r378), (5, .int r368), (0, .ref ab), (1, .ref a0), (2, .ref a27), (3, .ref a38), (4, .int z4)] hn (by decide) rfl ?_
    refine xw_aload_n hf (pc := 1704) dL_law_1704 rfl 4 rfl ?_
    refine xw_callV hf (pc := 1705) (nA := 0) (Xr := [(a0, .inr (8, [.ref a1, .ref a8, .ref a13, .ref a18, .ref a25])), (a1, .inr (2, [.ref a2, .ref a4, .ref a6])), (a2, .inr (7, [.ref a3, .int v0])), (a3, .inl (gJ (xg x), 60, .inr (.inl v1))), (a4, .inr (7, [.ref a5, .int v2])), (a5, .inl (gJ (xg x), 60, .inr (.inl v3))), (a6, .inr (3, [.ref a7])), (a7, .inl (gI (xg x), 32, .inl v4)), (a8, .inr (6, [.ref a9, .ref a11, .ref a12])), (a9, .inr (3, [.ref a10])), (a10, .inl (gI (xg x), 32, .inl w369)), (a11, .inl (gI (xg x), 32, .inl v6)), (a12, .inl (gI (xg x), 32, .inl v7)), (a13, .inr (1, [.ref a39, .ref a14, .ref a16, .int w370])), (a14, .inr (3, [.ref a15])), (a15, .inl (gI (xg x), 32, .inl v9)), (a16, .inr (3, [.ref a17])), (a17, .inl (gI (xg x), 32, .inl w371)), (a18, .inr (4, [.ref a19, .ref a21, .ref a23, .int v11, .int v12])), (a19, .inr (3, [.ref a20])), (a20, .inl (gI (xg x), 32, .inl v13)), (a21, .inr (7, [.ref a22, .int v14])), (a22, .inl (gJ (xg x), 60, .inr (.inl v15))), (a23, .inr (7, [.ref a24, .int v16])), (a24, .inl (gJ (xg x), 60, .inr (.inl v17))), (a25, .inr (3, [.ref a26])), (a26, .inl (gI (xg x), 32, .inl v18)), (a28, .inl (gJ (xg x), 60, .inr (.inl v25))), (a29, .inl (gI (xg x), 27, .inl w383)), (a30, .inl (gI (xg x), 27, .inl v27)), (a31, .inl (gI (xg x), 27, .inl v28)), (a32, .inl (gI (xg x), 27, .inl w384)), (w385, .inl (gJ (xg x), w386, .inr (.inl w387))), (w388, .inl (gI (xg x), w389, .inl w390)), (w391, .inl (gZ (xg x), w392, .inl w393)), (a33, .inl (gI (xg x), 12, .inl w394)), (a34, .inl (gI (xg x), 27, .inl w395)), (a35, .inl (gI (xg x), 27, .inl w396)), (a36, .inl (gI (xg x), 60, .inl v42)), (a37, .inl (gI (xg x), 3, .inl v43)), (a38, .inl (gJ (xg x), 1, .inr (.inl w372)))] ++ ZP (xg x) a39 w373) (rest := []) (T := TX9) (c_X9_thrown (xl x) (xg x) a27 a28 a29 a30 a31 a32 w385 w388 w391 a33 a34 a35 a36 a37 w379 v20 w380 w381 w382 v24 h) gL_law_X9_thrown (by rfl) rfl rfl (by decide +kernel) ⟨⟨(Nat.le_of_ble_eq_true rfl), (Nat.le_of_ble_eq_true rfl)⟩, (Nat.le_trans (Nat.le_add_right _ _) hk.1), (Nat.le_trans (Nat.le_add_right _ _) hk.2)⟩ (Nat.le_of_ble_eq_true rfl) rfl rfl (sb_zr (sb_of [27, 0, 1, 2, 3, 4, 5, 6, 7, 8, 9, 10, 11, 12, 13, 14, 15, 16, 17, 18, 19, 20, 21, 22, 23, 24, 25, 26, 28, 29, 30, 31, 32, 33, 34, 35, 36, 37, 38, 39, 40, 41] rfl rfl)) rfl dL_law_1705 (fun v X1 hp => ?_)
    obtain ⟨r401, rfl, rfl, h⟩ := hp
    refine xw_X (sb_rz (sb_of [1, 2, 3, 4, 5, 6, 7, 8, 9, 10, 11, 12, 13, 14, 15, 16, 17, 18, 19, 20, 21, 22, 23, 24, 25, 26, 27, 0, 28, 29, 30, 31, 32, 33, 34, 35, 36, 37, 38, 39, 40, 41] rfl rfl)) (show ww x (W_L_law (xg x) a0 a1 a2 a3 a4 a5 a6 a7 a8 a9 a10 a11 a12 a13 a14 a15 a16 a17 a18 a19 a20 a21 a22 a23 a24 a25 a26 a27 a28 a29 a30 a31 a32 a33 a34 a35 a36 a37 a38 a39 ab v0 v1 v2 v3 v4 w369 v6 v7 w370 v9 w371 v11 v12 v13 v14 v15 v16 v17 v18 w379 v20 w380 w381 w382 v24 v25 w383 v27 v28 w384 w385 w386 w387 w388 w389 w390 w391 w392 w393 w394 w395 w396 v42 v43 w372 v46 v47 ++ ZP (xg x) a39 w373) [(6, .int r378), (5, .int r368), (0, .ref ab), (1, .ref a0), (2, .ref a27), (3, .ref a38), (4, .int z4)] (k0 + mc374 + mc397) (n0 + ms375 + ms398) 1708 [.int r401] from ?_)
    refine xw_iload hf (pc := 1708) dL_law_1708 1 rfl ?_
    refine xw_icmp_eq hf (pc := 1710) dL_law_1710 (tgt := 1715) rfl ⟨fun c => ?_, fun c => ?_⟩
    · have h := h.1 c
      refine xw_iload hf (pc := 1715) dL_law_1715 1 rfl ?_
      refine xw_if_ne hf (pc := 1717) dL_law_1717 (c := r368 = 0) Iff.rfl (tgt := 1732) rfl ⟨fun c => ?_, fun c => ?_⟩
      · have h := h.1 c
        refine xw_aload_n hf (pc := 1720) dL_law_1720 rfl 5 rfl ?_
        refine xw_iconst hf (pc := 1721) dL_law_1721 (v := 0) (by decide) ?_
        refine xw_lald hf (pc := 1722) dL_law_1722 41 rfl h.1 ?_
        have h := h.2
        refine xw_iload hf (pc := 1723) dL_law_1723 0 rfl ?_
        refine xw_i2l hf (pc := 1725) dL_law_1725 ?_
        refine xw_lcmp hf (pc := 1726) dL_law_1726 ?_
        refine xw_if_eq hf (pc := 1727) dL_law_1727 (c := (w372 (0 : Int32).toNatClampNeg) = r378.toInt64) (lc_eq _ _) (tgt := 1732) rfl ⟨fun c => ?_, fun c => ?_⟩
        · have h := h.1 c
          refine xw_goto hf (pc := 1732) dL_law_1732 (tgt := 2681) rfl ?_
          refine xw_L [2, 3, 4, 5, 6] rfl ?_
          exact hK2681 _ _ _ _ hk _ _ _ _ _ _ _ _ _ _ _ _ _ _ _ _ _ _ _ _ _ _ _ h
        · have h := h.2 c
          refine xw_iconst hf (pc := 1730) dL_law_1730 (v := 0) (by decide) ?_
          exact h.elim
      · have h := h.2 c
        refine xw_goto hf (pc := 1732) dL_law_1732 (tgt := 2681) rfl ?_
        refine xw_L [2, 3, 4, 5, 6] rfl ?_
        exact hK2681 _ _ _ _ hk _ _ _ _ _ _ _ _ _ _ _ _ _ _ _ _ _ _ _ _ _ _ _ h
    · have h := h.2 c
      refine xw_iconst hf (pc := 1713) dL_law_1713 (v := 0) (by decide) ?_
      exact h.elim
set_option maxHeartbeats 4000000 in
set_option maxRecDepth 100000 in
theorem w_L_law_L1735 {x : Cx} {mc ms : Nat} (hf : fx x (rm_L_law) RL cL_law wsL_law) (hn : xn x = 8) {k0 n0 rc rs : Nat} (hk : k0 + rc ≤ (rm_L_law).cells ∧ n0 + rs ≤ (rm_L_law).slots) (a0 a1 a2 a3 a4 a5 a6 a7 a8 a9 a10 a11 a12 a13 a14 a15 a16 a17 a18 a19 a20 a21 a22 a23 a24 a25 a26 a27 a28 a29 a30 a31 a32 a33 a34 a35 a36 a37 a38 a39 ab : Nat) (z4 : Int32) (v0 : Int32) (v1 : Nat → Int64) (v6 : Nat → Int32) (v7 : Nat → Int32) (v20 : Int32) (v21 : Int32) (v22 : Int32) (v24 : Int32) (v25 : Nat → Int64) (v26 : Nat → Int32) (v27 : Nat → Int32) (v46 : Nat) (v47 : Nat → Int32) (v2 : Int32) (v3 : Nat → Int64) (v4 : Nat → Int32) (v8 : Int32) (v9 : Nat → Int32) (v10 : Nat → Int32) (v11 : Int32) (v12 : Int32) (v13 : Nat → Int32) (v14 : Int32) (v15 : Nat → Int64) (v16 : Int32) (v17 : Nat → Int64) (v18 : Nat → Int32) (v28 : Nat → Int32) (v29 : Nat → Int32) (v30 : Nat) (v31 : Nat) (v32 : Nat → Int64) (v33 : Nat) (v34 : Nat) (v35 : Nat → Int32) (v36 : Nat) (v37 : Nat) (v38 : Nat → Int32) (v42 : Nat → Int32) (v43 : Nat → Int32) (v45 : ZL) {K2681 : Nat → Nat → (Nat → Int32) → Int32 → Int32 → (Nat → Int32) → (Nat → Int32) → (Nat → Int32) → (Nat → Int64) → Prop} (hst : (xl x).stackTraces = false) (hX : sX x ab v46 v47)
    (n : Nat) (v5 : Nat → Int32) (v19 : Int32) (v23 : Int32) (v39 : Nat → Int32) (v40 : Nat → Int32) (v41 : Nat → Int32) (v44 : Nat → Int64) (h : P_L_law_L1735 z4 v0 v1 v6 v7 v20 v21 v22 v24 v25 v26 v27 v46 v47 K2681 n rc rs v5 v19 v23 v39 v40 v41 v44)
    (hK2681 : ∀ (k0 n0 rc rs : Nat), k0 + rc ≤ (rm_L_law).cells ∧ n0 + rs ≤ (rm_L_law).slots → ∀ (uv5 : Nat → Int32), ∀ (uv19 : Int32), ∀ (uv23 : Int32), ∀ (uv39 : Nat → Int32), ∀ (uv40 : Nat → Int32), ∀ (uv41 : Nat → Int32), ∀ (uv44 : Nat → Int64), K2681 rc rs uv5 uv19 uv23 uv39 uv40 uv41 uv44 → ww x (W_L_law (xg x) a0 a1 a2 a3 a4 a5 a6 a7 a8 a9 a10 a11 a12 a13 a14 a15 a16 a17 a18 a19 a20 a21 a22 a23 a24 a25 a26 a27 a28 a29 a30 a31 a32 a33 a34 a35 a36 a37 a38 a39 ab v0 v1 v2 v3 v4 uv5 v6 v7 v8 v9 v10 v11 v12 v13 v14 v15 v16 v17 v18 uv19 v20 v21 v22 uv23 v24 v25 v26 v27 v28 v29 v30 v31 v32 v33 v34 v35 v36 v37 v38 uv39 uv40 uv41 v42 v43 uv44 v46 v47 ++ ZP (xg x) a39 v45) [(0, .ref ab), (1, .ref a0), (2, .ref a27), (3, .ref a38), (4, .int z4)] k0 n0 2681 []) :
    ww x (W_L_law (xg x) a0 a1 a2 a3 a4 a5 a6 a7 a8 a9 a10 a11 a12 a13 a14 a15 a16 a17 a18 a19 a20 a21 a22 a23 a24 a25 a26 a27 a28 a29 a30 a31 a32 a33 a34 a35 a36 a37 a38 a39 ab v0 v1 v2 v3 v4 v5 v6 v7 v8 v9 v10 v11 v12 v13 v14 v15 v16 v17 v18 v19 v20 v21 v22 v23 v24 v25 v26 v27 v28 v29 v30 v31 v32 v33 v34 v35 v36 v37 v38 v39 v40 v41 v42 v43 v44 v46 v47 ++ ZP (xg x) a39 v45) [(0, .ref ab), (1, .ref a0), (2, .ref a27), (3, .ref a38), (4, .int z4)] k0 n0 1735 [] := by
  induction n generalizing k0 n0 rc rs v5 v19 v23 v39 v40 v41 v44 with
  | zero => exact h.elim
  | succ n ih =>
    unfold P_L_law_L1735 at h
    refine xw_aload_n hf (pc := 1735) dL_law_1735 rfl 1 rfl ?_
    refine xw_aload_n hf (pc := 1736) dL_law_1736 rfl 0 rfl ?_
    refine xw_iload hf (pc := 1737) dL_law_1737 4 rfl ?_
    refine xw_iconst hf (pc := 1739) dL_law_1739 (v := 1) (by decide) ?_
    refine xw_iadd hf (pc := 1740) dL_law_1740 ?_
    refine xw_sald hf hX dL_law_1741 h.1 ?_
    have h := h.2
    refine xw_aload_n hf (pc := 1742) dL_law_1742 rfl 3 rfl ?_
    obtain ⟨mc432, ms433, ⟨hb1, hb2⟩, h⟩ := h
    refine xw_callSW hf (pc := 1743) (nA := 3) (Xr := [(a4, .inr (7, [.ref a5, .int v2])), (a5, .inl (gJ (xg x), 60, .inr (.inl v3))), (a6, .inr (3, [.ref a7])), (a7, .inl (gI (xg x), 32, .inl v4)), (a13, .inr (1, [.ref a39, .ref a14, .ref a16, .int v8])), (a14, .inr (3, [.ref a15])), (a15, .inl (gI (xg x), 32, .inl v9)), (a16, .inr (3, [.ref a17])), (a17, .inl (gI (xg x), 32, .inl v10)), (a18, .inr (4, [.ref a19, .ref a21, .ref a23, .int v11, .int v12])), (a19, .inr (3, [.ref a20])), (a20, .inl (gI (xg x), 32, .inl v13)), (a21, .inr (7, [.ref a22, .int v14])), (a22, .inl (gJ (xg x), 60, .inr (.inl v15))), (a23, .inr (7, [.ref a24, .int v16])), (a24, .inl (gJ (xg x), 60, .inr (.inl v17))), (a25, .inr (3, [.ref a26])), (a26, .inl (gI (xg x), 32, .inl v18)), (a27, .inr (9, [.int v19, .ref a28, .int v20, .ref a29, .ref a30, .ref a31, .ref a32, .ref v30, .ref v33, .ref v36, .int v21, .int v22, .ref a33, .int v23, .ref a34, .ref a35, .ref a36, .ref a37, .int v24])), (a28, .inl (gJ (xg x), 60, .inr (.inl v25))), (a29, .inl (gI (xg x), 27, .inl v26)), (a30, .inl (gI (xg x), 27, .inl v27)), (a31, .inl (gI (xg x), 27, .inl v28)), (a32, .inl (gI (xg x), 27, .inl v29)), (v30, .inl (gJ (xg x), v31, .inr (.inl v32))), (v33, .inl (gI (xg x), v34, .inl v35)), (v36, .inl (gZ (xg x), v37, .inl v38)), (a33, .inl (gI (xg x), 12, .inl v39)), (a34, .inl (gI (xg x), 27, .inl v40)), (a35, .inl (gI (xg x), 27, .inl v41)), (a36, .inl (gI (xg x), 60, .inl v42)), (a37, .inl (gI (xg x), 3, .inl v43))] ++ ZP (xg x) a39 v45) (rest := []) (c_L_affordableWords (xl x) (xg x) hst a0 a1 a2 a3 a8 a9 a10 a11 a12 a38 a13 a18 a25 a4 a6 v0 v1 v5 v6 v7 v44 (v47 (z4 + 1).toNatClampNeg) h) gL_law_L_affordableWords (by rfl) rfl (by decide +kernel) ⟨⟨(Nat.le_of_ble_eq_true rfl), (Nat.le_of_ble_eq_true rfl)⟩, (Nat.le_trans (show k0 + 1 ≤ k0 + rc by omega) hk.1), (Nat.le_trans (show n0 + 6 ≤ n0 + rs by omega) hk.2)⟩ (Nat.le_of_ble_eq_true rfl) (sb_zr (sb_of [0, 1, 2, 3, 8, 9, 10, 11, 12, 41, 4, 5, 6, 7, 13, 14, 15, 16, 17, 18, 19, 20, 21, 22, 23, 24, 25, 26, 27, 28, 29, 30, 31, 32, 33, 34, 35, 36, 37, 38, 39, 40] rfl rfl)) rfl dL_law_1743 (fun v X1 hp => ?_)
    obtain ⟨r429, w430, w431, rfl, rfl, h⟩ := hp
    have hk : k0 + 1 + mc432 ≤ (rm_L_law).cells ∧ n0 + 6 + ms433 ≤ (rm_L_law).slots := ⟨Nat.le_trans (show k0 + 1 + mc432 ≤ k0 + rc by omega) hk.1, Nat.le_trans (show n0 + 6 + ms433 ≤ n0 + rs by omega) hk.2⟩
    refine xw_X (sb_rz (sb_of [0, 1, 2, 3, 10, 11, 12, 13, 4, 5, 6, 7, 8, 14, 15, 16, 17, 18, 19, 20, 21, 22, 23, 24, 25, 26, 27, 28, 29, 30, 31, 32, 33, 34, 35, 36, 37, 38, 39, 40, 41, 9] rfl rfl)) (show ww x (W_L_law (xg x) a0 a1 a2 a3 a4 a5 a6 a7 a8 a9 a10 a11 a12 a13 a14 a15 a16 a17 a18 a19 a20 a21 a22 a23 a24 a25 a26 a27 a28 a29 a30 a31 a32 a33 a34 a35 a36 a37 a38 a39 ab v0 v1 v2 v3 v4 w430 v6 v7 v8 v9 v10 v11 v12 v13 v14 v15 v16 v17 v18 v19 v20 v21 v22 v23 v24 v25 v26 v27 v28 v29 v30 v31 v32 v33 v34 v35 v36 v37 v38 v39 v40 v41 v42 v43 w431 v46 v47 ++ ZP (xg x) a39 v45) [(0, .ref ab), (1, .ref a0), (2, .ref a27), (3, .ref a38), (4, .int z4)] (k0 + 1) (n0 + 6) 1746 [.int r429] from ?_)
    refine xw_istore hf (pc := 1746) dL_law_1746 [(5, .int r429), (0, .ref ab), (1, .ref a0), (2, .ref a27), (3, .ref a38), (4, .int z4)] hn (by decide) rfl ?_
    refine xw_aload_n hf (pc := 1748) dL_law_1748 rfl 3 rfl ?_
    refine xw_aload_n hf (pc := 1749) dL_law_1749 rfl 1 rfl ?_
    refine xw_iload hf (pc := 1750) dL_law_1750 5 rfl ?_
    refine xw_iconst hf (pc := 1752) dL_law_1752 (v := 1) (by decide) ?_
    refine xw_iadd hf (pc := 1753) dL_law_1753 ?_
    refine xw_sald hf hX dL_law_1754 h.1 ?_
    have h := h.2
    refine xw_callV hf (pc := 1755) (nA := 1) (Xr := [(a0, .inr (8, [.ref a1, .ref a8, .ref a13, .ref a18, .ref a25])), (a1, .inr (2, [.ref a2, .ref a4, .ref a6])), (a2, .inr (7, [.ref a3, .int v0])), (a3, .inl (gJ (xg x), 60, .inr (.inl v1))), (a4, .inr (7, [.ref a5, .int v2])), (a5, .inl (gJ (xg x), 60, .inr (.inl v3))), (a6, .inr (3, [.ref a7])), (a7, .inl (gI (xg x), 32, .inl v4)), (a8, .inr (6, [.ref a9, .ref a11, .ref a12])), (a9, .inr (3, [.ref a10])), (a10, .inl (gI (xg x), 32, .inl w430)), (a11, .inl (gI (xg x), 32, .inl v6)), (a12, .inl (gI (xg x), 32, .inl v7)), (a13, .inr (1, [.ref a39, .ref a14, .ref a16, .int v8])), (a14, .inr (3, [.ref a15])), (a15, .inl (gI (xg x), 32, .inl v9)), (a16, .inr (3, [.ref a17])), (a17, .inl (gI (xg x), 32, .inl v10)), (a18, .inr (4, [.ref a19, .ref a21, .ref a23, .int v11, .int v12])), (a19, .inr (3, [.ref a20])), (a20, .inl (gI (xg x), 32, .inl v13)), (a21, .inr (7, [.ref a22, .int v14])), (a22, .inl (gJ (xg x), 60, .inr (.inl v15))), (a23, .inr (7, [.ref a24, .int v16])), (a24, .inl (gJ (xg x), 60, .inr (.inl v17))), (a25, .inr (3, [.ref a26])), (a26, .inl (gI (xg x), 32, .inl v18)), (a31, .inl (gI (xg x), 27, .inl v28)), (a32, .inl (gI (xg x), 27, .inl v29)), (v30, .inl (gJ (xg x), v31, .inr (.inl v32))), (v33, .inl (gI (xg x), v34, .inl v35)), (v36, .inl (gZ (xg x), v37, .inl v38)), (a36, .inl (gI (xg x), 60, .inl v42)), (a37, .inl (gI (xg x), 3, .inl v43)), (a38, .inl (gJ (xg x), 1, .inr (.inl w431)))] ++ ZP (xg x) a39 v45) (rest := []) (T := TX9) (c_X9_affordableWords (xl x) (xg x) a27 a28 a29 a30 a33 a34 a35 a31 a32 v30 v33 v36 a36 a37 v19 v20 v21 v22 v23 v24 v25 v26 v27 v39 v40 v41 (v47 (z4 + 1).toNatClampNeg) h) gL_law_X9_affordableWords (by rfl) rfl rfl (by decide +kernel) ⟨⟨(Nat.le_of_ble_eq_true rfl), (Nat.le_of_ble_eq_true rfl)⟩, (Nat.le_trans (Nat.le_add_right _ _) hk.1), (Nat.le_trans (Nat.le_add_right _ _) hk.2)⟩ (Nat.le_of_ble_eq_true rfl) rfl rfl (sb_zr (sb_of [27, 28, 29, 30, 36, 37, 38, 0, 1, 2, 3, 4, 5, 6, 7, 8, 9, 10, 11, 12, 13, 14, 15, 16, 17, 18, 19, 20, 21, 22, 23, 24, 25, 26, 31, 32, 33, 34, 35, 39, 40, 41] rfl rfl)) rfl dL_law_1755 (fun v X1 hp => ?_)
    obtain ⟨r434, w435, w436, w437, w438, w439, rfl, rfl, h⟩ := hp
    refine xw_X (sb_rz (sb_of [7, 8, 9, 10, 11, 12, 13, 14, 15, 16, 17, 18, 19, 20, 21, 22, 23, 24, 25, 26, 27, 28, 29, 30, 31, 32, 33, 0, 1, 2, 3, 34, 35, 36, 37, 38, 4, 5, 6, 39, 40, 41] rfl rfl)) (show ww x (W_L_law (xg x) a0 a1 a2 a3 a4 a5 a6 a7 a8 a9 a10 a11 a12 a13 a14 a15 a16 a17 a18 a19 a20 a21 a22 a23 a24 a25 a26 a27 a28 a29 a30 a31 a32 a33 a34 a35 a36 a37 a38 a39 ab v0 v1 v2 v3 v4 w430 v6 v7 v8 v9 v10 v11 v12 v13 v14 v15 v16 v17 v18 w435 v20 v21 v22 w436 v24 v25 v26 v27 v28 v29 v30 v31 v32 v33 v34 v35 v36 v37 v38 w437 w438 w439 v42 v43 w431 v46 v47 ++ ZP (xg x) a39 v45) [(5, .int r429), (0, .ref ab), (1, .ref a0), (2, .ref a27), (3, .ref a38), (4, .int z4)] (k0 + 1) (n0 + 6) 1758 [.int r434] from ?_)
    refine xw_istore hf (pc := 1758) dL_law_1758 [(6, .int r434), (5, .int r429), (0, .ref ab), (1, .ref a0), (2, .ref a27), (3, .ref a38), (4, .int z4)] hn (by decide) rfl ?_
    refine xw_aload_n hf (pc := 1760) dL_law_1760 rfl 4 rfl ?_
    refine xw_callV hf (pc := 1761) (nA := 0) (Xr := [(a0, .inr (8, [.ref a1, .ref a8, .ref a13, .ref a18, .ref a25])), (a1, .inr (2, [.ref a2, .ref a4, .ref a6])), (a2, .inr (7, [.ref a3, .int v0])), (a3, .inl (gJ (xg x), 60, .inr (.inl v1))), (a4, .inr (7, [.ref a5, .int v2])), (a5, .inl (gJ (xg x), 60, .inr (.inl v3))), (a6, .inr (3, [.ref a7])), (a7, .inl (gI (xg x), 32, .inl v4)), (a8, .inr (6, [.ref a9, .ref a11, .ref a12])), (a9, .inr (3, [.ref a10])), (a10, .inl (gI (xg x), 32, .inl w430)), (a11, .inl (gI (xg x), 32, .inl v6)), (a12, .inl (gI (xg x), 32, .inl v7)), (a13, .inr (1, [.ref a39, .ref a14, .ref a16, .int v8])), (a14, .inr (3, [.ref a15])), (a15, .inl (gI (xg x), 32, .inl v9)), (a16, .inr (3, [.ref a17])), (a17, .inl (gI (xg x), 32, .inl v10)), (a18, .inr (4, [.ref a19, .ref a21, .ref a23, .int v11, .int v12])), (a19, .inr (3, [.ref a20])), (a20, .inl (gI (xg x), 32, .inl v13)), (a21, .inr (7, [.ref a22, .int v14])), (a22, .inl (gJ (xg x), 60, .inr (.inl v15))), (a23, .inr (7, [.ref a24, .int v16])), (a24, .inl (gJ (xg x), 60, .inr (.inl v17))), (a25, .inr (3, [.ref a26])), (a26, .inl (gI (xg x), 32, .inl v18)), (a28, .inl (gJ (xg x), 60, .inr (.inl v25))), (a29, .inl (gI (xg x), 27, .inl v26)), (a30, .inl (gI (xg x), 27, .inl v27)), (a31, .inl (gI (xg x), 27, .inl v28)), (a32, .inl (gI (xg x), 27, .inl v29)), (v30, .inl (gJ (xg x), v31, .inr (.inl v32))), (v33, .inl (gI (xg x), v34, .inl v35)), (v36, .inl (gZ (xg x), v37, .inl v38)), (a33, .inl (gI (xg x), 12, .inl w437)), (a34, .inl (gI (xg x), 27, .inl w438)), (a35, .inl (gI (xg x), 27, .inl w439)), (a36, .inl (gI (xg x), 60, .inl v42)), (a37, .inl (gI (xg x), 3, .inl v43)), (a38, .inl (gJ (xg x), 1, .inr (.inl w431)))] ++ ZP (xg x) a39 v45) (rest := []) (T := TX9) (c_X9_thrown (xl x) (xg x) a27 a28 a29 a30 a31 a32 v30 v33 v36 a33 a34 a35 a36 a37 w435 v20 v21 v22 w436 v24 h) gL_law_X9_thrown (by rfl) rfl rfl (by decide +kernel) ⟨⟨(Nat.le_of_ble_eq_true rfl), (Nat.le_of_ble_eq_true rfl)⟩, (Nat.le_trans (Nat.le_add_right _ _) hk.1), (Nat.le_trans (Nat.le_add_right _ _) hk.2)⟩ (Nat.le_of_ble_eq_true rfl) rfl rfl (sb_zr (sb_of [27, 0, 1, 2, 3, 4, 5, 6, 7, 8, 9, 10, 11, 12, 13, 14, 15, 16, 17, 18, 19, 20, 21, 22, 23, 24, 25, 26, 28, 29, 30, 31, 32, 33, 34, 35, 36, 37, 38, 39, 40, 41] rfl rfl)) rfl dL_law_1761 (fun v X1 hp => ?_)
    obtain ⟨r440, rfl, rfl, h⟩ := hp
    refine xw_X (sb_rz (sb_of [1, 2, 3, 4, 5, 6, 7, 8, 9, 10, 11, 12, 13, 14, 15, 16, 17, 18, 19, 20, 21, 22, 23, 24, 25, 26, 27, 0, 28, 29, 30, 31, 32, 33, 34, 35, 36, 37, 38, 39, 40, 41] rfl rfl)) (show ww x (W_L_law (xg x) a0 a1 a2 a3 a4 a5 a6 a7 a8 a9 a10 a11 a12 a13 a14 a15 a16 a17 a18 a19 a20 a21 a22 a23 a24 a25 a26 a27 a28 a29 a30 a31 a32 a33 a34 a35 a36 a37 a38 a39 ab v0 v1 v2 v3 v4 w430 v6 v7 v8 v9 v10 v11 v12 v13 v14 v15 v16 v17 v18 w435 v20 v21 v22 w436 v24 v25 v26 v27 v28 v29 v30 v31 v32 v33 v34 v35 v36 v37 v38 w437 w438 w439 v42 v43 w431 v46 v47 ++ ZP (xg x) a39 v45) [(6, .int r434), (5, .int r429), (0, .ref ab), (1, .ref a0), (2, .ref a27), (3, .ref a38), (4, .int z4)] (k0 + 1) (n0 + 6) 1764 [.int r440] from ?_)
    refine xw_iload hf (pc := 1764) dL_law_1764 1 rfl ?_
    refine xw_icmp_eq hf (pc := 1766) dL_law_1766 (tgt := 1771) rfl ⟨fun c => ?_, fun c => ?_⟩
    · have h := h.1 c
      refine xw_iload hf (pc := 1771) dL_law_1771 1 rfl ?_
      refine xw_if_ne hf (pc := 1773) dL_law_1773 (c := r429 = 0) Iff.rfl (tgt := 1788) rfl ⟨fun c => ?_, fun c => ?_⟩
      · have h := h.1 c
        refine xw_aload_n hf (pc := 1776) dL_law_1776 rfl 5 rfl ?_
        refine xw_iconst hf (pc := 1777) dL_law_1777 (v := 0) (by decide) ?_
        refine xw_lald hf (pc := 1778) dL_law_1778 41 rfl h.1 ?_
        have h := h.2
        refine xw_iload hf (pc := 1779) dL_law_1779 0 rfl ?_
        refine xw_i2l hf (pc := 1781) dL_law_1781 ?_
        refine xw_lcmp hf (pc := 1782) dL_law_1782 ?_
        refine xw_if_eq hf (pc := 1783) dL_law_1783 (c := (w431 (0 : Int32).toNatClampNeg) = r434.toInt64) (lc_eq _ _) (tgt := 1788) rfl ⟨fun c => ?_, fun c => ?_⟩
        · have h := h.1 c
          refine xw_goto hf (pc := 1788) dL_law_1788 (tgt := 2681) rfl ?_
          refine xw_L [2, 3, 4, 5, 6] rfl ?_
          exact hK2681 _ _ _ _ hk _ _ _ _ _ _ _ h
        · have h := h.2 c
          refine xw_iconst hf (pc := 1786) dL_law_1786 (v := 0) (by decide) ?_
          exact h.elim
      · have h := h.2 c
        refine xw_goto hf (pc := 1788) dL_law_1788 (tgt := 2681) rfl ?_
        refine xw_L [2, 3, 4, 5, 6] rfl ?_
        exact hK2681 _ _ _ _ hk _ _ _ _ _ _ _ h
    · have h := h.2 c
      refine xw_iconst hf (pc := 1769) dL_law_1769 (v := 0) (by decide) ?_
      exact h.elim
set_option maxHeartbeats 4000000 in
set_option maxRecDepth 100000 in
theorem w_L_law_L1791 {x : Cx} {mc ms : Nat} (hf : fx x (rm_L_law) RL cL_law wsL_law) (hn : xn x = 8) {k0 n0 rc rs : Nat} (hk : k0 + rc ≤ (rm_L_law).cells ∧ n0 + rs ≤ (rm_L_law).slots) (a0 a1 a2 a3 a4 a5 a6 a7 a8 a9 a10 a11 a12 a13 a14 a15 a16 a17 a18 a19 a20 a21 a22 a23 a24 a25 a26 a27 a28 a29 a30 a31 a32 a33 a34 a35 a36 a37 a38 a39 ab : Nat) (z4 : Int32) (v0 : Int32) (v1 : Nat → Int64) (v6 : Nat → Int32) (v7 : Nat → Int32) (v20 : Int32) (v21 : Int32) (v22 : Int32) (v24 : Int32) (v25 : Nat → Int64) (v26 : Nat → Int32) (v27 : Nat → Int32) (v46 : Nat) (v47 : Nat → Int32) (v2 : Int32) (v3 : Nat → Int64) (v4 : Nat → Int32) (v8 : Int32) (v9 : Nat → Int32) (v10 : Nat → Int32) (v11 : Int32) (v12 : Int32) (v13 : Nat → Int32) (v14 : Int32) (v15 : Nat → Int64) (v16 : Int32) (v17 : Nat → Int64) (v18 : Nat → Int32) (v28 : Nat → Int32) (v29 : Nat → Int32) (v30 : Nat) (v31 : Nat) (v32 : Nat → Int64) (v33 : Nat) (v34 : Nat) (v35 : Nat → Int32) (v36 : Nat) (v37 : Nat) (v38 : Nat → Int32) (v42 : Nat → Int32) (v43 : Nat → Int32) (v45 : ZL) {K2681 : Nat → Nat → (Nat → Int32) → Int32 → Int32 → (Nat → Int32) → (Nat → Int32) → (Nat → Int32) → (Nat → Int64) → Prop} (hst : (xl x).stackTraces = false) (hX : sX x ab v46 v47)
    (n : Nat) (v5 : Nat → Int32) (v19 : Int32) (v23 : Int32) (v39 : Nat → Int32) (v40 : Nat → Int32) (v41 : Nat → Int32) (v44 : Nat → Int64) (h : P_L_law_L1791 z4 v0 v1 v6 v7 v20 v21 v22 v24 v25 v26 v27 v46 v47 K2681 n rc rs v5 v19 v23 v39 v40 v41 v44)
    (hK2681 : ∀ (k0 n0 rc rs : Nat), k0 + rc ≤ (rm_L_law).cells ∧ n0 + rs ≤ (rm_L_law).slots → ∀ (uv5 : Nat → Int32), ∀ (uv19 : Int32), ∀ (uv23 : Int32), ∀ (uv39 : Nat → Int32), ∀ (uv40 : Nat → Int32), ∀ (uv41 : Nat → Int32), ∀ (uv44 : Nat → Int64), K2681 rc rs uv5 uv19 uv23 uv39 uv40 uv41 uv44 → ww x (W_L_law (xg x) a0 a1 a2 a3 a4 a5 a6 a7 a8 a9 a10 a11 a12 a13 a14 a15 a16 a17 a18 a19 a20 a21 a22 a23 a24 a25 a26 a27 a28 a29 a30 a31 a32 a33 a34 a35 a36 a37 a38 a39 ab v0 v1 v2 v3 v4 uv5 v6 v7 v8 v9 v10 v11 v12 v13 v14 v15 v16 v17 v18 uv19 v20 v21 v22 uv23 v24 v25 v26 v27 v28 v29 v30 v31 v32 v33 v34 v35 v36 v37 v38 uv39 uv40 uv41 v42 v43 uv44 v46 v47 ++ ZP (xg x) a39 v45) [(0, .ref ab), (1, .ref a0), (2, .ref a27), (3, .ref a38), (4, .int z4)] k0 n0 2681 []) :
    ww x (W_L_law (xg x) a0 a1 a2 a3 a4 a5 a6 a7 a8 a9 a10 a11 a12 a13 a14 a15 a16 a17 a18 a19 a20 a21 a22 a23 a24 a25 a26 a27 a28 a29 a30 a31 a32 a33 a34 a35 a36 a37 a38 a39 ab v0 v1 v2 v3 v4 v5 v6 v7 v8 v9 v10 v11 v12 v13 v14 v15 v16 v17 v18 v19 v20 v21 v22 v23 v24 v25 v26 v27 v28 v29 v30 v31 v32 v33 v34 v35 v36 v37 v38 v39 v40 v41 v42 v43 v44 v46 v47 ++ ZP (xg x) a39 v45) [(0, .ref ab), (1, .ref a0), (2, .ref a27), (3, .ref a38), (4, .int z4)] k0 n0 1791 [] := by
  induction n generalizing k0 n0 rc rs v5 v19 v23 v39 v40 v41 v44 with
  | zero => exact h.elim
  | succ n ih =>
    unfold P_L_law_L1791 at h
    refine xw_aload_n hf (pc := 1791) dL_law_1791 rfl 1 rfl ?_
    refine xw_aload_n hf (pc := 1792) dL_law_1792 rfl 0 rfl ?_
    refine xw_iload hf (pc := 1793) dL_law_1793 4 rfl ?_
    refine xw_iconst hf (pc := 1795) dL_law_1795 (v := 1) (by decide) ?_
    refine xw_iadd hf (pc := 1796) dL_law_1796 ?_
    refine xw_sald hf hX dL_law_1797 h.1 ?_
    have h := h.2
    refine xw_aload_n hf (pc := 1798) dL_law_1798 rfl 3 rfl ?_
    obtain ⟨mc455, ms456, ⟨hb1, hb2⟩, h⟩ := h
    refine xw_callSW hf (pc := 1799) (nA := 3) (Xr := [(a4, .inr (7, [.ref a5, .int v2])), (a5, .inl (gJ (xg x), 60, .inr (.inl v3))), (a6, .inr (3, [.ref a7])), (a7, .inl (gI (xg x), 32, .inl v4)), (a13, .inr (1, [.ref a39, .ref a14, .ref a16, .int v8])), (a14, .inr (3, [.ref a15])), (a15, .inl (gI (xg x), 32, .inl v9)), (a16, .inr (3, [.ref a17])), (a17, .inl (gI (xg x), 32, .inl v10)), (a18, .inr (4, [.ref a19, .ref a21, .ref a23, .int v11, .int v12])), (a19, .inr (3, [.ref a20])), (a20, .inl (gI (xg x), 32, .inl v13)), (a21, .inr (7, [.ref a22, .int v14])), (a22, .inl (gJ (xg x), 60, .inr (.inl v15))), (a23, .inr (7, [.ref a24, .int v16])), (a24, .inl (gJ (xg x), 60, .inr (.inl v17))), (a25, .inr (3, [.ref a26])), (a26, .inl (gI (xg x), 32, .inl v18)), (a27, .inr (9, [.int v19, .ref a28, .int v20, .ref a29, .ref a30, .ref a31, .ref a32, .ref v30, .ref v33, .ref v36, .int v21, .int v22, .ref a33, .int v23, .ref a34, .ref a35, .ref a36, .ref a37, .int v24])), (a28, .inl (gJ (xg x), 60, .inr (.inl v25))), (a29, .inl (gI (xg x), 27, .inl v26)), (a30, .inl (gI (xg x), 27, .inl v27)), (a31, .inl (gI (xg x), 27, .inl v28)), (a32, .inl (gI (xg x), 27, .inl v29)), (v30, .inl (gJ (xg x), v31, .inr (.inl v32))), (v33, .inl (gI (xg x), v34, .inl v35)), (v36, .inl (gZ (xg x), v37, .inl v38)), (a33, .inl (gI (xg x), 12, .inl v39)), (a34, .inl (gI (xg x), 27, .inl v40)), (a35, .inl (gI (xg x), 27, .inl v41)), (a36, .inl (gI (xg x), 60, .inl v42)), (a37, .inl (gI (xg x), 3, .inl v43))] ++ ZP (xg x) a39 v45) (rest := []) (c_L_bestWord (xl x) (xg x) hst a0 a1 a2 a3 a8 a9 a10 a11 a12 a38 a13 a18 a25 a4 a6 v0 v1 v5 v6 v7 v44 (v47 (z4 + 1).toNatClampNeg) h) gL_law_L_bestWord (by rfl) rfl (by decide +kernel) ⟨⟨(Nat.le_of_ble_eq_true rfl), (Nat.le_of_ble_eq_true rfl)⟩, (Nat.le_trans (show k0 + 1 ≤ k0 + rc by omega) hk.1), (Nat.le_trans (show n0 + 6 ≤ n0 + rs by omega) hk.2)⟩ (Nat.le_of_ble_eq_true rfl) (sb_zr (sb_of [0, 1, 2, 3, 8, 9, 10, 11, 12, 41, 4, 5, 6, 7, 13, 14, 15, 16, 17, 18, 19, 20, 21, 22, 23, 24, 25, 26, 27, 28, 29, 30, 31, 32, 33, 34, 35, 36, 37, 38, 39, 40] rfl rfl)) rfl dL_law_1799 (fun v X1 hp => ?_)
    obtain ⟨r452, w453, w454, rfl, rfl, h⟩ := hp
    have hk : k0 + 1 + mc455 ≤ (rm_L_law).cells ∧ n0 + 6 + ms456 ≤ (rm_L_law).slots := ⟨Nat.le_trans (show k0 + 1 + mc455 ≤ k0 + rc by omega) hk.1, Nat.le_trans (show n0 + 6 + ms456 ≤ n0 + rs by omega) hk.2⟩
    refine xw_X (sb_rz (sb_of [0, 1, 2, 3, 10, 11, 12, 13, 4, 5, 6, 7, 8, 14, 15, 16, 17, 18, 19, 20, 21, 22, 23, 24, 25, 26, 27, 28, 29, 30, 31, 32, 33, 34, 35, 36, 37, 38, 39, 40, 41, 9] rfl rfl)) (show ww x (W_L_law (xg x) a0 a1 a2 a3 a4 a5 a6 a7 a8 a9 a10 a11 a12 a13 a14 a15 a16 a17 a18 a19 a20 a21 a22 a23 a24 a25 a26 a27 a28 a29 a30 a31 a32 a33 a34 a35 a36 a37 a38 a39 ab v0 v1 v2 v3 v4 w453 v6 v7 v8 v9 v10 v11 v12 v13 v14 v15 v16 v17 v18 v19 v20 v21 v22 v23 v24 v25 v26 v27 v28 v29 v30 v31 v32 v33 v34 v35 v36 v37 v38 v39 v40 v41 v42 v43 w454 v46 v47 ++ ZP (xg x) a39 v45) [(0, .ref ab), (1, .ref a0), (2, .ref a27), (3, .ref a38), (4, .int z4)] (k0 + 1) (n0 + 6) 1802 [.int r452] from ?_)
    refine xw_istore hf (pc := 1802) dL_law_1802 [(5, .int r452), (0, .ref ab), (1, .ref a0), (2, .ref a27), (3, .ref a38), (4, .int z4)] hn (by decide) rfl ?_
    refine xw_aload_n hf (pc := 1804) dL_law_1804 rfl 3 rfl ?_
    refine xw_aload_n hf (pc := 1805) dL_law_1805 rfl 1 rfl ?_
    refine xw_iload hf (pc := 1806) dL_law_1806 5 rfl ?_
    refine xw_iconst hf (pc := 1808) dL_law_1808 (v := 1) (by decide) ?_
    refine xw_iadd hf (pc := 1809) dL_law_1809 ?_
    refine xw_sald hf hX dL_law_1810 h.1 ?_
    have h := h.2
    refine xw_callV hf (pc := 1811) (nA := 1) (Xr := [(a0, .inr (8, [.ref a1, .ref a8, .ref a13, .ref a18, .ref a25])), (a1, .inr (2, [.ref a2, .ref a4, .ref a6])), (a2, .inr (7, [.ref a3, .int v0])), (a3, .inl (gJ (xg x), 60, .inr (.inl v1))), (a4, .inr (7, [.ref a5, .int v2])), (a5, .inl (gJ (xg x), 60, .inr (.inl v3))), (a6, .inr (3, [.ref a7])), (a7, .inl (gI (xg x), 32, .inl v4)), (a8, .inr (6, [.ref a9, .ref a11, .ref a12])), (a9, .inr (3, [.ref a10])), (a10, .inl (gI (xg x), 32, .inl w453)), (a11, .inl (gI (xg x), 32, .inl v6)), (a12, .inl (gI (xg x), 32, .inl v7)), (a13, .inr (1, [.ref a39, .ref a14, .ref a16, .int v8])), (a14, .inr (3, [.ref a15])), (a15, .inl (gI (xg x), 32, .inl v9)), (a16, .inr (3, [.ref a17])), (a17, .inl (gI (xg x), 32, .inl v10)), (a18, .inr (4, [.ref a19, .ref a21, .ref a23, .int v11, .int v12])), (a19, .inr (3, [.ref a20])), (a20, .inl (gI (xg x), 32, .inl v13)), (a21, .inr (7, [.ref a22, .int v14])), (a22, .inl (gJ (xg x), 60, .inr (.inl v15))), (a23, .inr (7, [.ref a24, .int v16])), (a24, .inl (gJ (xg x), 60, .inr (.inl v17))), (a25, .inr (3, [.ref a26])), (a26, .inl (gI (xg x), 32, .inl v18)), (a31, .inl (gI (xg x), 27, .inl v28)), (a32, .inl (gI (xg x), 27, .inl v29)), (v30, .inl (gJ (xg x), v31, .inr (.inl v32))), (v33, .inl (gI (xg x), v34, .inl v35)), (v36, .inl (gZ (xg x), v37, .inl v38)), (a36, .inl (gI (xg x), 60, .inl v42)), (a37, .inl (gI (xg x), 3, .inl v43)), (a38, .inl (gJ (xg x), 1, .inr (.inl w454)))] ++ ZP (xg x) a39 v45) (rest := []) (T := TX9) (c_X9_bestWord (xl x) (xg x) a27 a28 a29 a30 a33 a34 a35 a31 a32 v30 v33 v36 a36 a37 v19 v20 v21 v22 v23 v24 v25 v26 v27 v39 v40 v41 (v47 (z4 + 1).toNatClampNeg) h) gL_law_X9_bestWord (by rfl) rfl rfl (by decide +kernel) ⟨⟨(Nat.le_of_ble_eq_true rfl), (Nat.le_of_ble_eq_true rfl)⟩, (Nat.le_trans (Nat.le_add_right _ _) hk.1), (Nat.le_trans (Nat.le_add_right _ _) hk.2)⟩ (Nat.le_of_ble_eq_true rfl) rfl rfl (sb_zr (sb_of [27, 28, 29, 30, 36, 37, 38, 0, 1, 2, 3, 4, 5, 6, 7, 8, 9, 10, 11, 12, 13, 14, 15, 16, 17, 18, 19, 20, 21, 22, 23, 24, 25, 26, 31, 32, 33, 34, 35, 39, 40, 41] rfl rfl)) rfl dL_law_1811 (fun v X1 hp => ?_)
    obtain ⟨r457, w458, w459, w460, w461, w462, rfl, rfl, h⟩ := hp
    refine xw_X (sb_rz (sb_of [7, 8, 9, 10, 11, 12, 13, 14, 15, 16, 17, 18, 19, 20, 21, 22, 23, 24, 25, 26, 27, 28, 29, 30, 31, 32, 33, 0, 1, 2, 3, 34, 35, 36, 37, 38, 4, 5, 6, 39, 40, 41] rfl rfl)) (show ww x (W_L_law (xg x) a0 a1 a2 a3 a4 a5 a6 a7 a8 a9 a10 a11 a12 a13 a14 a15 a16 a17 a18 a19 a20 a21 a22 a23 a24 a25 a26 a27 a28 a29 a30 a31 a32 a33 a34 a35 a36 a37 a38 a39 ab v0 v1 v2 v3 v4 w453 v6 v7 v8 v9 v10 v11 v12 v13 v14 v15 v16 v17 v18 w458 v20 v21 v22 w459 v24 v25 v26 v27 v28 v29 v30 v31 v32 v33 v34 v35 v36 v37 v38 w460 w461 w462 v42 v43 w454 v46 v47 ++ ZP (xg x) a39 v45) [(5, .int r452), (0, .ref ab), (1, .ref a0), (2, .ref a27), (3, .ref a38), (4, .int z4)] (k0 + 1) (n0 + 6) 1814 [.long r457] from ?_)
    refine xw_lstore hf (pc := 1814) dL_law_1814 [(6, .long r457), (5, .int r452), (0, .ref ab), (1, .ref a0), (2, .ref a27), (3, .ref a38), (4, .int z4)] hn (by decide) rfl ?_
    refine xw_aload_n hf (pc := 1816) dL_law_1816 rfl 4 rfl ?_
    refine xw_callV hf (pc := 1817) (nA := 0) (Xr := [(a0, .inr (8, [.ref a1, .ref a8, .ref a13, .ref a18, .ref a25])), (a1, .inr (2, [.ref a2, .ref a4, .ref a6])), (a2, .inr (7, [.ref a3, .int v0])), (a3, .inl (gJ (xg x), 60, .inr (.inl v1))), (a4, .inr (7, [.ref a5, .int v2])), (a5, .inl (gJ (xg x), 60, .inr (.inl v3))), (a6, .inr (3, [.ref a7])), (a7, .inl (gI (xg x), 32, .inl v4)), (a8, .inr (6, [.ref a9, .ref a11, .ref a12])), (a9, .inr (3, [.ref a10])), (a10, .inl (gI (xg x), 32, .inl w453)), (a11, .inl (gI (xg x), 32, .inl v6)), (a12, .inl (gI (xg x), 32, .inl v7)), (a13, .inr (1, [.ref a39, .ref a14, .ref a16, .int v8])), (a14, .inr (3, [.ref a15])), (a15, .inl (gI (xg x), 32, .inl v9)), (a16, .inr (3, [.ref a17])), (a17, .inl (gI (xg x), 32, .inl v10)), (a18, .inr (4, [.ref a19, .ref a21, .ref a23, .int v11, .int v12])), (a19, .inr (3, [.ref a20])), (a20, .inl (gI (xg x), 32, .inl v13)), (a21, .inr (7, [.ref a22, .int v14])), (a22, .inl (gJ (xg x), 60, .inr (.inl v15))), (a23, .inr (7, [.ref a24, .int v16])), (a24, .inl (gJ (xg x), 60, .inr (.inl v17))), (a25, .inr (3, [.ref a26])), (a26, .inl (gI (xg x), 32, .inl v18)), (a28, .inl (gJ (xg x), 60, .inr (.inl v25))), (a29, .inl (gI (xg x), 27, .inl v26)), (a30, .inl (gI (xg x), 27, .inl v27)), (a31, .inl (gI (xg x), 27, .inl v28)), (a32, .inl (gI (xg x), 27, .inl v29)), (v30, .inl (gJ (xg x), v31, .inr (.inl v32))), (v33, .inl (gI (xg x), v34, .inl v35)), (v36, .inl (gZ (xg x), v37, .inl v38)), (a33, .inl (gI (xg x), 12, .inl w460)), (a34, .inl (gI (xg x), 27, .inl w461)), (a35, .inl (gI (xg x), 27, .inl w462)), (a36, .inl (gI (xg x), 60, .inl v42)), (a37, .inl (gI (xg x), 3, .inl v43)), (a38, .inl (gJ (xg x), 1, .inr (.inl w454)))] ++ ZP (xg x) a39 v45) (rest := []) (T := TX9) (c_X9_thrown (xl x) (xg x) a27 a28 a29 a30 a31 a32 v30 v33 v36 a33 a34 a35 a36 a37 w458 v20 v21 v22 w459 v24 h) gL_law_X9_thrown (by rfl) rfl rfl (by decide +kernel) ⟨⟨(Nat.le_of_ble_eq_true rfl), (Nat.le_of_ble_eq_true rfl)⟩, (Nat.le_trans (Nat.le_add_right _ _) hk.1), (Nat.le_trans (Nat.le_add_right _ _) hk.2)⟩ (Nat.le_of_ble_eq_true rfl) rfl rfl (sb_zr (sb_of [27, 0, 1, 2, 3, 4, 5, 6, 7, 8, 9, 10, 11, 12, 13, 14, 15, 16, 17, 18, 19, 20, 21, 22, 23, 24, 25, 26, 28, 29, 30, 31, 32, 33, 34, 35, 36, 37, 38, 39, 40, 41] rfl rfl)) rfl dL_law_1817 (fun v X1 hp => ?_)
    obtain ⟨r463, rfl, rfl, h⟩ := hp
    refine xw_X (sb_rz (sb_of [1, 2, 3, 4, 5, 6, 7, 8, 9, 10, 11, 12, 13, 14, 15, 16, 17, 18, 19, 20, 21, 22, 23, 24, 25, 26, 27, 0, 28, 29, 30, 31, 32, 33, 34, 35, 36, 37, 38, 39, 40, 41] rfl rfl)) (show ww x (W_L_law (xg x) a0 a1 a2 a3 a4 a5 a6 a7 a8 a9 a10 a11 a12 a13 a14 a15 a16 a17 a18 a19 a20 a21 a22 a23 a24 a25 a26 a27 a28 a29 a30 a31 a32 a33 a34 a35 a36 a37 a38 a39 ab v0 v1 v2 v3 v4 w453 v6 v7 v8 v9 v10 v11 v12 v13 v14 v15 v16 v17 v18 w458 v20 v21 v22 w459 v24 v25 v26 v27 v28 v29 v30 v31 v32 v33 v34 v35 v36 v37 v38 w460 w461 w462 v42 v43 w454 v46 v47 ++ ZP (xg x) a39 v45) [(6, .long r457), (5, .int r452), (0, .ref ab), (1, .ref a0), (2, .ref a27), (3, .ref a38), (4, .int z4)] (k0 + 1) (n0 + 6) 1820 [.int r463] from ?_)
    refine xw_iload hf (pc := 1820) dL_law_1820 1 rfl ?_
    refine xw_icmp_eq hf (pc := 1822) dL_law_1822 (tgt := 1827) rfl ⟨fun c => ?_, fun c => ?_⟩
    · have h := h.1 c
      refine xw_iload hf (pc := 1827) dL_law_1827 1 rfl ?_
      refine xw_if_ne hf (pc := 1829) dL_law_1829 (c := r452 = 0) Iff.rfl (tgt := 1843) rfl ⟨fun c => ?_, fun c => ?_⟩
      · have h := h.1 c
        refine xw_aload_n hf (pc := 1832) dL_law_1832 rfl 5 rfl ?_
        refine xw_iconst hf (pc := 1833) dL_law_1833 (v := 0) (by decide) ?_
        refine xw_lald hf (pc := 1834) dL_law_1834 41 rfl h.1 ?_
        have h := h.2
        refine xw_lload hf (pc := 1835) dL_law_1835 0 rfl ?_
        refine xw_lcmp hf (pc := 1837) dL_law_1837 ?_
        refine xw_if_eq hf (pc := 1838) dL_law_1838 (c := (w454 (0 : Int32).toNatClampNeg) = r457) (lc_eq _ _) (tgt := 1843) rfl ⟨fun c => ?_, fun c => ?_⟩
        · have h := h.1 c
          refine xw_goto hf (pc := 1843) dL_law_1843 (tgt := 2681) rfl ?_
          refine xw_L [2, 3, 4, 5, 6] rfl ?_
          exact hK2681 _ _ _ _ hk _ _ _ _ _ _ _ h
        · have h := h.2 c
          refine xw_iconst hf (pc := 1841) dL_law_1841 (v := 0) (by decide) ?_
          exact h.elim
      · have h := h.2 c
        refine xw_goto hf (pc := 1843) dL_law_1843 (tgt := 2681) rfl ?_
        refine xw_L [2, 3, 4, 5, 6] rfl ?_
        exact hK2681 _ _ _ _ hk _ _ _ _ _ _ _ h
    · have h := h.2 c
      refine xw_iconst hf (pc := 1825) dL_law_1825 (v := 0) (by decide) ?_
      exact h.elim
set_option maxHeartbeats 4000000 in
set_option maxRecDepth 100000 in
theorem w_L_law_L1846 {x : Cx} {mc ms : Nat} (hf : fx x (rm_L_law) RL cL_law wsL_law) (hn : xn x = 8) {k0 n0 rc rs : Nat} (hk : k0 + rc ≤ (rm_L_law).cells ∧ n0 + rs ≤ (rm_L_law).slots) (a0 a1 a2 a3 a4 a5 a6 a7 a8 a9 a10 a11 a12 a13 a14 a15 a16 a17 a18 a19 a20 a21 a22 a23 a24 a25 a26 a27 a28 a29 a30 a31 a32 a33 a34 a35 a36 a37 a38 a39 ab : Nat) (z4 : Int32) (v0 : Int32) (v1 : Nat → Int64) (v6 : Nat → Int32) (v7 : Nat → Int32) (v20 : Int32) (v24 : Int32) (v25 : Nat → Int64) (v27 : Nat → Int32) (v46 : Nat) (v47 : Nat → Int32) (v2 : Int32) (v3 : Nat → Int64) (v4 : Nat → Int32) (v9 : Nat → Int32) (v11 : Int32) (v12 : Int32) (v13 : Nat → Int32) (v14 : Int32) (v15 : Nat → Int64) (v16 : Int32) (v17 : Nat → Int64) (v18 : Nat → Int32) (v28 : Nat → Int32) (v42 : Nat → Int32) (v43 : Nat → Int32) {K2681 : Nat → Nat → (Nat → Int32) → Int32 → (Nat → Int32) → Int32 → Int32 → Int32 → Int32 → (Nat → Int32) → (Nat → Int32) → Nat → Nat → (Nat → Int64) → Nat → Nat → (Nat → Int32) → Nat → Nat → (Nat → Int32) → (Nat → Int32) → (Nat → Int32) → (Nat → Int32) → (Nat → Int64) → ZL → Prop} (hst : (xl x).stackTraces = false) (hX : sX x ab v46 v47)
    (n : Nat) (v5 : Nat → Int32) (v8 : Int32) (v10 : Nat → Int32) (v19 : Int32) (v21 : Int32) (v22 : Int32) (v23 : Int32) (v26 : Nat → Int32) (v29 : Nat → Int32) (v30 : Nat) (v31 : Nat) (v32 : Nat → Int64) (v33 : Nat) (v34 : Nat) (v35 : Nat → Int32) (v36 : Nat) (v37 : Nat) (v38 : Nat → Int32) (v39 : Nat → Int32) (v40 : Nat → Int32) (v41 : Nat → Int32) (v44 : Nat → Int64) (v45 : ZL) (h : P_L_law_L1846 z4 v0 v1 v6 v7 v20 v24 v25 v27 v46 v47 K2681 n rc rs v5 v8 v10 v19 v21 v22 v23 v26 v29 v30 v31 v32 v33 v34 v35 v36 v37 v38 v39 v40 v41 v44 v45)
    (hK2681 : ∀ (k0 n0 rc rs : Nat), k0 + rc ≤ (rm_L_law).cells ∧ n0 + rs ≤ (rm_L_law).slots → ∀ (uv5 : Nat → Int32), ∀ (uv8 : Int32), ∀ (uv10 : Nat → Int32), ∀ (uv19 : Int32), ∀ (uv21 : Int32), ∀ (uv22 : Int32), ∀ (uv23 : Int32), ∀ (uv26 : Nat → Int32), ∀ (uv29 : Nat → Int32), ∀ (uv30 : Nat), ∀ (uv31 : Nat), ∀ (uv32 : Nat → Int64), ∀ (uv33 : Nat), ∀ (uv34 : Nat), ∀ (uv35 : Nat → Int32), ∀ (uv36 : Nat), ∀ (uv37 : Nat), ∀ (uv38 : Nat → Int32), ∀ (uv39 : Nat → Int32), ∀ (uv40 : Nat → Int32), ∀ (uv41 : Nat → Int32), ∀ (uv44 : Nat → Int64), ∀ (uv45 : ZL), K2681 rc rs uv5 uv8 uv10 uv19 uv21 uv22 uv23 uv26 uv29 uv30 uv31 uv32 uv33 uv34 uv35 uv36 uv37 uv38 uv39 uv40 uv41 uv44 uv45 → ww x (W_L_law (xg x) a0 a1 a2 a3 a4 a5 a6 a7 a8 a9 a10 a11 a12 a13 a14 a15 a16 a17 a18 a19 a20 a21 a22 a23 a24 a25 a26 a27 a28 a29 a30 a31 a32 a33 a34 a35 a36 a37 a38 a39 ab v0 v1 v2 v3 v4 uv5 v6 v7 uv8 v9 uv10 v11 v12 v13 v14 v15 v16 v17 v18 uv19 v20 uv21 uv22 uv23 v24 v25 uv26 v27 v28 uv29 uv30 uv31 uv32 uv33 uv34 uv35 uv36 uv37 uv38 uv39 uv40 uv41 v42 v43 uv44 v46 v47 ++ ZP (xg x) a39 uv45) [(0, .ref ab), (1, .ref a0), (2, .ref a27), (3, .ref a38), (4, .int z4)] k0 n0 2681 []) :
    ww x (W_L_law (xg x) a0 a1 a2 a3 a4 a5 a6 a7 a8 a9 a10 a11 a12 a13 a14 a15 a16 a17 a18 a19 a20 a21 a22 a23 a24 a25 a26 a27 a28 a29 a30 a31 a32 a33 a34 a35 a36 a37 a38 a39 ab v0 v1 v2 v3 v4 v5 v6 v7 v8 v9 v10 v11 v12 v13 v14 v15 v16 v17 v18 v19 v20 v21 v22 v23 v24 v25 v26 v27 v28 v29 v30 v31 v32 v33 v34 v35 v36 v37 v38 v39 v40 v41 v42 v43 v44 v46 v47 ++ ZP (xg x) a39 v45) [(0, .ref ab), (1, .ref a0), (2, .ref a27), (3, .ref a38), (4, .int z4)] k0 n0 1846 [] := by
  induction n generalizing k0 n0 rc rs v5 v8 v10 v19 v21 v22 v23 v26 v29 v30 v31 v32 v33 v34 v35 v36 v37 v38 v39 v40 v41 v44 v45 with
  | zero => exact h.elim
  | succ n ih =>
    unfold P_L_law_L1846 at h
    refine xw_aload_n hf (pc := 1846) dL_law_1846 rfl 1 rfl ?_
    refine xw_aload_n hf (pc := 1847) dL_law_1847 rfl 0 rfl ?_
    refine xw_iload hf (pc := 1848) dL_law_1848 4 rfl ?_
    refine xw_iconst hf (pc := 1850) dL_law_1850 (v := 1) (by decide) ?_
    refine xw_iadd hf (pc := 1851) dL_law_1851 ?_
    refine xw_sald hf hX dL_law_1852 h.1 ?_
    have h := h.2
    refine xw_aload_n hf (pc := 1853) dL_law_1853 rfl 3 rfl ?_
    obtain ⟨mc481, ms482, mc483, ms484, ⟨hb1, hb2⟩, h⟩ := h
    refine xw_callSW hf (pc := 1854) (nA := 3) (Xr := [(a4, .inr (7, [.ref a5, .int v2])), (a5, .inl (gJ (xg x), 60, .inr (.inl v3))), (a6, .inr (3, [.ref a7])), (a7, .inl (gI (xg x), 32, .inl v4)), (a14, .inr (3, [.ref a15])), (a15, .inl (gI (xg x), 32, .inl v9)), (a18, .inr (4, [.ref a19, .ref a21, .ref a23, .int v11, .int v12])), (a19, .inr (3, [.ref a20])), (a20, .inl (gI (xg x), 32, .inl v13)), (a21, .inr (7, [.ref a22, .int v14])), (a22, .inl (gJ (xg x), 60, .inr (.inl v15))), (a23, .inr (7, [.ref a24, .int v16])), (a24, .inl (gJ (xg x), 60, .inr (.inl v17))), (a25, .inr (3, [.ref a26])), (a26, .inl (gI (xg x), 32, .inl v18)), (a27, .inr (9, [.int v19, .ref a28, .int v20, .ref a29, .ref a30, .ref a31, .ref a32, .ref v30, .ref v33, .ref v36, .int v21, .int v22, .ref a33, .int v23, .ref a34, .ref a35, .ref a36, .ref a37, .int v24])), (a28, .inl (gJ (xg x), 60, .inr (.inl v25))), (a29, .inl (gI (xg x), 27, .inl v26)), (a30, .inl (gI (xg x), 27, .inl v27)), (a31, .inl (gI (xg x), 27, .inl v28)), (a32, .inl (gI (xg x), 27, .inl v29)), (v30, .inl (gJ (xg x), v31, .inr (.inl v32))), (v33, .inl (gI (xg x), v34, .inl v35)), (v36, .inl (gZ (xg x), v37, .inl v38)), (a33, .inl (gI (xg x), 12, .inl v39)), (a34, .inl (gI (xg x), 27, .inl v40)), (a35, .inl (gI (xg x), 27, .inl v41)), (a36, .inl (gI (xg x), 60, .inl v42)), (a37, .inl (gI (xg x), 3, .inl v43))]) (rest := []) (c_L_spend (xl x) (xg x) hst a0 a1 a2 a3 a8 a9 a10 a11 a12 a13 a16 a17 a38 a39 a18 a25 a4 a6 a14 v0 v1 v5 v6 v7 v8 v10 v44 v45 (v47 (z4 + 1).toNatClampNeg) h) gL_law_L_spend (by rfl) rfl (by decide +kernel) ⟨⟨(Nat.le_of_ble_eq_true rfl), (Nat.le_of_ble_eq_true rfl)⟩, (Nat.le_trans (show k0 + mc481 ≤ k0 + rc by omega) hk.1), (Nat.le_trans (show n0 + ms482 ≤ n0 + rs by omega) hk.2)⟩ (Nat.le_of_ble_eq_true rfl) (sb_zc (sb_of [0, 1, 2, 3, 8, 9, 10, 11, 12, 13, 16, 17, 41, 4, 5, 6, 7, 14, 15, 18, 19, 20, 21, 22, 23, 24, 25, 26, 27, 28, 29, 30, 31, 32, 33, 34, 35, 36, 37, 38, 39, 40] rfl rfl)) rfl dL_law_1854 (fun v X1 hp => ?_)
    obtain ⟨r475, w476, w477, w478, w479, w480, rfl, rfl, h⟩ := hp
    have hk : k0 + mc481 + mc483 ≤ (rm_L_law).cells ∧ n0 + ms482 + ms484 ≤ (rm_L_law).slots := ⟨Nat.le_trans (show k0 + mc481 + mc483 ≤ k0 + rc by omega) hk.1, Nat.le_trans (show n0 + ms482 + ms484 ≤ n0 + rs by omega) hk.2⟩
    refine xw_X (sb_cz (sb_of [0, 1, 2, 3, 13, 14, 15, 16, 4, 5, 6, 7, 8, 9, 17, 18, 10, 11, 19, 20, 21, 22, 23, 24, 25, 26, 27, 28, 29, 30, 31, 32, 33, 34, 35, 36, 37, 38, 39, 40, 41, 12] rfl rfl)) (show ww x (W_L_law (xg x) a0 a1 a2 a3 a4 a5 a6 a7 a8 a9 a10 a11 a12 a13 a14 a15 a16 a17 a18 a19 a20 a21 a22 a23 a24 a25 a26 a27 a28 a29 a30 a31 a32 a33 a34 a35 a36 a37 a38 a39 ab v0 v1 v2 v3 v4 w476 v6 v7 w477 v9 w478 v11 v12 v13 v14 v15 v16 v17 v18 v19 v20 v21 v22 v23 v24 v25 v26 v27 v28 v29 v30 v31 v32 v33 v34 v35 v36 v37 v38 v39 v40 v41 v42 v43 w479 v46 v47 ++ ZP (xg x) a39 w480) [(0, .ref ab), (1, .ref a0), (2, .ref a27), (3, .ref a38), (4, .int z4)] (k0 + mc481) (n0 + ms482) 1857 [.int r475] from ?_)
    refine xw_istore hf (pc := 1857) dL_law_1857 [(5, .int r475), (0, .ref ab), (1, .ref a0), (2, .ref a27), (3, .ref a38), (4, .int z4)] hn (by decide) rfl ?_
    refine xw_aload_n hf (pc := 1859) dL_law_1859 rfl 3 rfl ?_
    refine xw_aload_n hf (pc := 1860) dL_law_1860 rfl 1 rfl ?_
    refine xw_iload hf (pc := 1861) dL_law_1861 5 rfl ?_
    refine xw_iconst hf (pc := 1863) dL_law_1863 (v := 1) (by decide) ?_
    refine xw_iadd hf (pc := 1864) dL_law_1864 ?_
    refine xw_sald hf hX dL_law_1865 h.1 ?_
    have h := h.2
    obtain ⟨mc504, ms505, mc506, ms507, ⟨hb1, hb2⟩, h⟩ := h
    refine xw_callV hf (pc := 1866) (nA := 1) (Xr := [(a0, .inr (8, [.ref a1, .ref a8, .ref a13, .ref a18, .ref a25])), (a1, .inr (2, [.ref a2, .ref a4, .ref a6])), (a2, .inr (7, [.ref a3, .int v0])), (a3, .inl (gJ (xg x), 60, .inr (.inl v1))), (a4, .inr (7, [.ref a5, .int v2])), (a5, .inl (gJ (xg x), 60, .inr (.inl v3))), (a6, .inr (3, [.ref a7])), (a7, .inl (gI (xg x), 32, .inl v4)), (a8, .inr (6, [.ref a9, .ref a11, .ref a12])), (a9, .inr (3, [.ref a10])), (a10, .inl (gI (xg x), 32, .inl w476)), (a11, .inl (gI (xg x), 32, .inl v6)), (a12, .inl (gI (xg x), 32, .inl v7)), (a13, .inr (1, [.ref a39, .ref a14, .ref a16, .int w477])), (a14, .inr (3, [.ref a15])), (a15, .inl (gI (xg x), 32, .inl v9)), (a16, .inr (3, [.ref a17])), (a17, .inl (gI (xg x), 32, .inl w478)), (a18, .inr (4, [.ref a19, .ref a21, .ref a23, .int v11, .int v12])), (a19, .inr (3, [.ref a20])), (a20, .inl (gI (xg x), 32, .inl v13)), (a21, .inr (7, [.ref a22, .int v14])), (a22, .inl (gJ (xg x), 60, .inr (.inl v15))), (a23, .inr (7, [.ref a24, .int v16])), (a24, .inl (gJ (xg x), 60, .inr (.inl v17))), (a25, .inr (3, [.ref a26])), (a26, .inl (gI (xg x), 32, .inl v18)), (a31, .inl (gI (xg x), 27, .inl v28)), (a36, .inl (gI (xg x), 60, .inl v42)), (a37, .inl (gI (xg x), 3, .inl v43)), (a38, .inl (gJ (xg x), 1, .inr (.inl w479)))] ++ ZP (xg x) a39 w480) (rest := []) (T := TX9) (c_X9_spend (xl x) (xg x) a27 a28 a29 a30 a32 a33 a34 a35 a31 a36 a37 v19 v20 v21 v22 v23 v24 v25 v26 v27 v29 v30 v31 v32 v33 v34 v35 v36 v37 v38 v39 v40 v41 (v47 (z4 + 1).toNatClampNeg) h) gL_law_X9_spend (by rfl) rfl rfl (by decide +kernel) ⟨⟨(Nat.le_of_ble_eq_true rfl), (Nat.le_of_ble_eq_true rfl)⟩, (Nat.le_trans (show k0 + mc481 + mc504 ≤ k0 + mc481 + mc483 by omega) hk.1), (Nat.le_trans (show n0 + ms482 + ms505 ≤ n0 + ms482 + ms484 by omega) hk.2)⟩ (Nat.le_of_ble_eq_true rfl) rfl rfl (sb_zr (sb_of [27, 28, 29, 30, 32, 33, 34, 35, 36, 37, 38, 0, 1, 2, 3, 4, 5, 6, 7, 8, 9, 10, 11, 12, 13, 14, 15, 16, 17, 18, 19, 20, 21, 22, 23, 24, 25, 26, 31, 39, 40, 41] rfl rfl)) rfl dL_law_1866 (fun v X1 hp => ?_)
    obtain ⟨r485, w486, w487, w488, w489, w490, w491, w492, w493, w494, w495, w496, w497, w498, w499, w500, w501, w502, w503, rfl, rfl, h⟩ := hp
    have hk : k0 + mc481 + mc504 + mc506 ≤ (rm_L_law).cells ∧ n0 + ms482 + ms505 + ms507 ≤ (rm_L_law).slots := ⟨Nat.le_trans (show k0 + mc481 + mc504 + mc506 ≤ k0 + mc481 + mc483 by omega) hk.1, Nat.le_trans (show n0 + ms482 + ms505 + ms507 ≤ n0 + ms482 + ms484 by omega) hk.2⟩
    refine xw_X (sb_rz (sb_of [11, 12, 13, 14, 15, 16, 17, 18, 19, 20, 21, 22, 23, 24, 25, 26, 27, 28, 29, 30, 31, 32, 33, 34, 35, 36, 37, 0, 1, 2, 3, 38, 4, 5, 6, 7, 8, 9, 10, 39, 40, 41] rfl rfl)) (show ww x (W_L_law (xg x) a0 a1 a2 a3 a4 a5 a6 a7 a8 a9 a10 a11 a12 a13 a14 a15 a16 a17 a18 a19 a20 a21 a22 a23 a24 a25 a26 a27 a28 a29 a30 a31 a32 a33 a34 a35 a36 a37 a38 a39 ab v0 v1 v2 v3 v4 w476 v6 v7 w477 v9 w478 v11 v12 v13 v14 v15 v16 v17 v18 w486 v20 w487 w488 w489 v24 v25 w490 v27 v28 w491 w492 w493 w494 w495 w496 w497 w498 w499 w500 w501 w502 w503 v42 v43 w479 v46 v47 ++ ZP (xg x) a39 w480) [(5, .int r475), (0, .ref ab), (1, .ref a0), (2, .ref a27), (3, .ref a38), (4, .int z4)] (k0 + mc481 + mc504) (n0 + ms482 + ms505) 1869 [.int r485] from ?_)
    refine xw_istore hf (pc := 1869) dL_law_1869 [(6, .int r485), (5, .int r475), (0, .ref ab), (1, .ref a0), (2, .ref a27), (3, .ref a38), (4, .int z4)] hn (by decide) rfl ?_
    refine xw_aload_n hf (pc := 1871) dL_law_1871 rfl 4 rfl ?_
    refine xw_callV hf (pc := 1872) (nA := 0) (Xr := [(a0, .inr (8, [.ref a1, .ref a8, .ref a13, .ref a18, .ref a25])), (a1, .inr (2, [.ref a2, .ref a4, .ref a6])), (a2, .inr (7, [.ref a3, .int v0])), (a3, .inl (gJ (xg x), 60, .inr (.inl v1))), (a4, .inr (7, [.ref a5, .int v2])), (a5, .inl (gJ (xg x), 60, .inr (.inl v3))), (a6, .inr (3, [.ref a7])), (a7, .inl (gI (xg x), 32, .inl v4)), (a8, .inr (6, [.ref a9, .ref a11, .ref a12])), (a9, .inr (3, [.ref a10])), (a10, .inl (gI (xg x), 32, .inl w476)), (a11, .inl (gI (xg x), 32, .inl v6)), (a12, .inl (gI (xg x), 32, .inl v7)), (a13, .inr (1, [.ref a39, .ref a14, .ref a16, .int w477])), (a14, .inr (3, [.ref a15])), (a15, .inl (gI (xg x), 32, .inl v9)), (a16, .inr (3, [.ref a17])), (a17, .inl (gI (xg x), 32, .inl w478)), (a18, .inr (4, [.ref a19, .ref a21, .ref a23, .int v11, .int v12])), (a19, .inr (3, [.ref a20])), (a20, .inl (gI (xg x), 32, .inl v13)), (a21, .inr (7, [.ref a22, .int v14])), (a22, .inl (gJ (xg x), 60, .inr (.inl v15))), (a23, .inr (7, [.ref a24, .int v16])), (a24, .inl (gJ (xg x), 60, .inr (.inl v17))), (a25, .inr (3, [.ref a26])), (a26, .inl (gI (xg x), 32, .inl v18)), (a28, .inl (gJ (xg x), 60, .inr (.inl v25))), (a29, .inl (gI (xg x), 27, .inl w490)), (a30, .inl (gI (xg x), 27, .inl v27)), (a31, .inl (gI (xg x), 27, .inl v28)), (a32, .inl (gI (xg x), 27, .inl w491)), (w492, .inl (gJ (xg x), w493, .inr (.inl w494))), (w495, .inl (gI (xg x), w496, .inl w497)), (w498, .inl (gZ (xg x), w499, .inl w500)), (a33, .inl (gI (xg x), 12, .inl w501)), (a34, .inl (gI (xg x), 27, .inl w502)), (a35, .inl (gI (xg x), 27, .inl w503)), (a36, .inl (gI (xg x), 60, .inl v42)), (a37, .inl (gI (xg x), 3, .inl v43)), (a38, .inl (gJ (xg x), 1, .inr (.inl w479)))] ++ ZP (xg x) a39 w480) (rest := []) (T := TX9) (c_X9_thrown (xl x) (xg x) a27 a28 a29 a30 a31 a32 w492 w495 w498 a33 a34 a35 a36 a37 w486 v20 w487 w488 w489 v24 h) gL_law_X9_thrown (by rfl) rfl rfl (by decide +kernel) ⟨⟨(Nat.le_of_ble_eq_true rfl), (Nat.le_of_ble_eq_true rfl)⟩, (Nat.le_trans (Nat.le_add_right _ _) hk.1), (Nat.le_trans (Nat.le_add_right _ _) hk.2)⟩ (Nat.le_of_ble_eq_true rfl) rfl rfl (sb_zr (sb_of [27, 0, 1, 2, 3, 4, 5, 6, 7, 8, 9, 10, 11, 12, 13, 14, 15, 16, 17, 18, 19, 20, 21, 22, 23, 24, 25, 26, 28, 29, 30, 31, 32, 33, 34, 35, 36, 37, 38, 39, 40, 41] rfl rfl)) rfl dL_law_1872 (fun v X1 hp => ?_)
    obtain ⟨r508, rfl, rfl, h⟩ := hp
    refine xw_X (sb_rz (sb_of [1, 2, 3, 4, 5, 6, 7, 8, 9, 10, 11, 12, 13, 14, 15, 16, 17, 18, 19, 20, 21, 22, 23, 24, 25, 26, 27, 0, 28, 29, 30, 31, 32, 33, 34, 35, 36, 37, 38, 39, 40, 41] rfl rfl)) (show ww x (W_L_law (xg x) a0 a1 a2 a3 a4 a5 a6 a7 a8 a9 a10 a11 a12 a13 a14 a15 a16 a17 a18 a19 a20 a21 a22 a23 a24 a25 a26 a27 a28 a29 a30 a31 a32 a33 a34 a35 a36 a37 a38 a39 ab v0 v1 v2 v3 v4 w476 v6 v7 w477 v9 w478 v11 v12 v13 v14 v15 v16 v17 v18 w486 v20 w487 w488 w489 v24 v25 w490 v27 v28 w491 w492 w493 w494 w495 w496 w497 w498 w499 w500 w501 w502 w503 v42 v43 w479 v46 v47 ++ ZP (xg x) a39 w480) [(6, .int r485), (5, .int r475), (0, .ref ab), (1, .ref a0), (2, .ref a27), (3, .ref a38), (4, .int z4)] (k0 + mc481 + mc504) (n0 + ms482 + ms505) 1875 [.int r508] from ?_)
    refine xw_iload hf (pc := 1875) dL_law_1875 1 rfl ?_
    refine xw_icmp_eq hf (pc := 1877) dL_law_1877 (tgt := 1882) rfl ⟨fun c => ?_, fun c => ?_⟩
    · have h := h.1 c
      refine xw_iload hf (pc := 1882) dL_law_1882 1 rfl ?_
      refine xw_if_ne hf (pc := 1884) dL_law_1884 (c := r475 = 0) Iff.rfl (tgt := 1899) rfl ⟨fun c => ?_, fun c => ?_⟩
      · have h := h.1 c
        refine xw_aload_n hf (pc := 1887) dL_law_1887 rfl 5 rfl ?_
        refine xw_iconst hf (pc := 1888) dL_law_1888 (v := 0) (by decide) ?_
        refine xw_lald hf (pc := 1889) dL_law_1889 41 rfl h.1 ?_
        have h := h.2
        refine xw_iload hf (pc := 1890) dL_law_1890 0 rfl ?_
        refine xw_i2l hf (pc := 1892) dL_law_1892 ?_
        refine xw_lcmp hf (pc := 1893) dL_law_1893 ?_
        refine xw_if_eq hf (pc := 1894) dL_law_1894 (c := (w479 (0 : Int32).toNatClampNeg) = r485.toInt64) (lc_eq _ _) (tgt := 1899) rfl ⟨fun c => ?_, fun c => ?_⟩
        · have h := h.1 c
          refine xw_goto hf (pc := 1899) dL_law_1899 (tgt := 2681) rfl ?_
          refine xw_L [2, 3, 4, 5, 6] rfl ?_
          exact hK2681 _ _ _ _ hk _ _ _ _ _ _ _ _ _ _ _ _ _ _ _ _ _ _ _ _ _ _ _ h
        · have h := h.2 c
          refine xw_iconst hf (pc := 1897) dL_law_1897 (v := 0) (by decide) ?_
          exact h.elim
      · have h := h.2 c
        refine xw_goto hf (pc := 1899) dL_law_1899 (tgt := 2681) rfl ?_
        refine xw_L [2, 3, 4, 5, 6] rfl ?_
        exact hK2681 _ _ _ _ hk _ _ _ _ _ _ _ _ _ _ _ _ _ _ _ _ _ _ _ _ _ _ _ h
    · have h := h.2 c
      refine xw_iconst hf (pc := 1880) dL_law_1880 (v := 0) (by decide) ?_
      exact h.elim
