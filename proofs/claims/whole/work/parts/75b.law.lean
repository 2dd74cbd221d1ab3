set_option maxHeartbeats 4000000 in
set_option maxRecDepth 100000 in
theorem w_L_law_L623 {x : Cx} {mc ms : Nat} (hf : fx x (rm_L_law) RL cL_law wsL_law) (hn : xn x = 8) {k0 n0 rc rs : Nat} (hk : k0 + rc ≤ (rm_L_law).cells ∧ n0 + rs ≤ (rm_L_law).slots) (a0 a1 a2 a3 a4 a5 a6 a7 a8 a9 a10 a11 a12 a13 a14 a15 a16 a17 a18 a19 a20 a21 a22 a23 a24 a25 a26 a27 a28 a29 a30 a31 a32 a33 a34 a35 a36 a37 a38 a39 ab : Nat) (z4 : Int32) (v0 : Int32) (v1 : Nat → Int64) (v20 : Int32) (v21 : Int32) (v22 : Int32) (v24 : Int32) (v25 : Nat → Int64) (v46 : Nat) (v47 : Nat → Int32) (v5 : Nat → Int32) (v6 : Nat → Int32) (v7 : Nat → Int32) (v8 : Int32) (v9 : Nat → Int32) (v10 : Nat → Int32) (v11 : Int32) (v12 : Int32) (v13 : Nat → Int32) (v14 : Int32) (v15 : Nat → Int64) (v16 : Int32) (v17 : Nat → Int64) (v18 : Nat → Int32) (v26 : Nat → Int32) (v27 : Nat → Int32) (v28 : Nat → Int32) (v29 : Nat → Int32) (v30 : Nat) (v31 : Nat) (v32 : Nat → Int64) (v33 : Nat) (v34 : Nat) (v35 : Nat → Int32) (v36 : Nat) (v37 : Nat) (v38 : Nat → Int32) (v41 : Nat → Int32) (v42 : Nat → Int32) (v43 : Nat → Int32) (v45 : ZL) {K2681 : Nat → Nat → Int32 → (Nat → Int64) → (Nat → Int32) → Int32 → Int32 → (Nat → Int32) → (Nat → Int32) → (Nat → Int64) → Prop} (hst : (xl x).stackTraces = false) (hX : sX x ab v46 v47)
    (n : Nat) (v2 : Int32) (v3 : Nat → Int64) (v4 : Nat → Int32) (v19 : Int32) (v23 : Int32) (v39 : Nat → Int32) (v40 : Nat → Int32) (v44 : Nat → Int64) (h : P_L_law_L623 z4 v0 v1 v20 v21 v22 v24 v25 v46 v47 K2681 n rc rs v2 v3 v4 v19 v23 v39 v40 v44)
    (hK2681 : ∀ (k0 n0 rc rs : Nat), k0 + rc ≤ (rm_L_law).cells ∧ n0 + rs ≤ (rm_L_law).slots → ∀ (uv2 : Int32), ∀ (uv3 : Nat → Int64), ∀ (uv4 : Nat → Int32), ∀ (uv19 : Int32), ∀ (uv23 : Int32), ∀ (uv39 : Nat → Int32), ∀ (uv40 : Nat → Int32), ∀ (uv44 : Nat → Int64), K2681 rc rs uv2 uv3 uv4 uv19 uv23 uv39 uv40 uv44 → ww x (W_L_law (xg x) a0 a1 a2 a3 a4 a5 a6 a7 a8 a9 a10 a11 a12 a13 a14 a15 a16 a17 a18 a19 a20 a21 a22 a23 a24 a25 a26 a27 a28 a29 a30 a31 a32 a33 a34 a35 a36 a37 a38 a39 ab v0 v1 uv2 uv3 uv4 v5 v6 v7 v8 v9 v10 v11 v12 v13 v14 v15 v16 v17 v18 uv19 v20 v21 v22 uv23 v24 v25 v26 v27 v28 v29 v30 v31 v32 v33 v34 v35 v36 v37 v38 uv39 uv40 v41 v42 v43 uv44 v46 v47 ++ ZP (xg x) a39 v45) [(0, .ref ab), (1, .ref a0), (2, .ref a27), (3, .ref a38), (4, .int z4)] k0 n0 2681 []) :
    ww x (W_L_law (xg x) a0 a1 a2 a3 a4 a5 a6 a7 a8 a9 a10 a11 a12 a13 a14 a15 a16 a17 a18 a19 a20 a21 a22 a23 a24 a25 a26 a27 a28 a29 a30 a31 a32 a33 a34 a35 a36 a37 a38 a39 ab v0 v1 v2 v3 v4 v5 v6 v7 v8 v9 v10 v11 v12 v13 v14 v15 v16 v17 v18 v19 v20 v21 v22 v23 v24 v25 v26 v27 v28 v29 v30 v31 v32 v33 v34 v35 v36 v37 v38 v39 v40 v41 v42 v43 v44 v46 v47 ++ ZP (xg x) a39 v45) [(0, .ref ab), (1, .ref a0), (2, .ref a27), (3, .ref a38), (4, .int z4)] k0 n0 623 [] := by
  induction n generalizing k0 n0 rc rs v2 v3 v4 v19 v23 v39 v40 v44 with
  | zero => exact h.elim
  | succ n ih =>
    unfold P_L_law_L623 at h
    refine xw_aload_n hf (pc := 623) dL_law_623 rfl 1 rfl ?_
    refine xw_aload_n hf (pc := 624) dL_law_624 rfl 0 rfl ?_
    refine xw_iload hf (pc := 625) dL_law_625 4 rfl ?_
    refine xw_iconst hf (pc := 627) dL_law_627 (v := 1) (by decide) ?_
    refine xw_iadd hf (pc := 628) dL_law_628 ?_
    refine xw_sald hf hX dL_law_629 h.1 ?_
    have h := h.2
    refine xw_i2l hf (pc := 630) dL_law_630 ?_
    refine xw_bipush hf (pc := 631) dL_law_631 (v := 32) (by decide) ?_
    refine xw_lshl hf (pc := 633) dL_law_633 ?_
    refine xw_aload_n hf (pc := 634) dL_law_634 rfl 0 rfl ?_
    refine xw_iload hf (pc := 635) dL_law_635 4 rfl ?_
    refine xw_iconst hf (pc := 637) dL_law_637 (v := 2) (by decide) ?_
    refine xw_iadd hf (pc := 638) dL_law_638 ?_
    refine xw_sald hf hX dL_law_639 h.1 ?_
    have h := h.2
    refine xw_i2l hf (pc := 640) dL_law_640 ?_
    refine xw_ldc2 hf (pc := 641) dL_law_641 mw_L_law_0 ?_
    refine xw_land hf (pc := 644) dL_law_644 ?_
    refine xw_lor hf (pc := 645) dL_law_645 ?_
    refine xw_aload_n hf (pc := 646) dL_law_646 rfl 0 rfl ?_
    refine xw_iload hf (pc := 647) dL_law_647 4 rfl ?_
    refine xw_iconst hf (pc := 649) dL_law_649 (v := 3) (by decide) ?_
    refine xw_iadd hf (pc := 650) dL_law_650 ?_
    refine xw_sald hf hX dL_law_651 h.1 ?_
    have h := h.2
    refine xw_aload_n hf (pc := 652) dL_law_652 rfl 3 rfl ?_
    obtain ⟨mc107, ms108, ⟨hb1, hb2⟩, h⟩ := h
    refine xw_callSW hf (pc := 653) (nA := 4) (Xr := [(a8, .inr (6, [.ref a9, .ref a11, .ref a12])), (a9, .inr (3, [.ref a10])), (a10, .inl (gI (xg x), 32, .inl v5)), (a11, .inl (gI (xg x), 32, .inl v6)), (a12, .inl (gI (xg x), 32, .inl v7)), (a13, .inr (1, [.ref a39, .ref a14, .ref a16, .int v8])), (a14, .inr (3, [.ref a15])), (a15, .inl (gI (xg x), 32, .inl v9)), (a16, .inr (3, [.ref a17])), (a17, .inl (gI (xg x), 32, .inl v10)), (a18, .inr (4, [.ref a19, .ref a21, .ref a23, .int v11, .int v12])), (a19, .inr (3, [.ref a20])), (a20, .inl (gI (xg x), 32, .inl v13)), (a21, .inr (7, [.ref a22, .int v14])), (a22, .inl (gJ (xg x), 60, .inr (.inl v15))), (a23, .inr (7, [.ref a24, .int v16])), (a24, .inl (gJ (xg x), 60, .inr (.inl v17))), (a25, .inr (3, [.ref a26])), (a26, .inl (gI (xg x), 32, .inl v18)), (a27, .inr (9, [.int v19, .ref a28, .int v20, .ref a29, .ref a30, .ref a31, .ref a32, .ref v30, .ref v33, .ref v36, .int v21, .int v22, .ref a33, .int v23, .ref a34, .ref a35, .ref a36, .ref a37, .int v24])), (a28, .inl (gJ (xg x), 60, .inr (.inl v25))), (a29, .inl (gI (xg x), 27, .inl v26)), (a30, .inl (gI (xg x), 27, .inl v27)), (a31, .inl (gI (xg x), 27, .inl v28)), (a32, .inl (gI (xg x), 27, .inl v29)), (v30, .inl (gJ (xg x), v31, .inr (.inl v32))), (v33, .inl (gI (xg x), v34, .inl v35)), (v36, .inl (gZ (xg x), v37, .inl v38)), (a33, .inl (gI (xg x), 12, .inl v39)), (a34, .inl (gI (xg x), 27, .inl v40)), (a35, .inl (gI (xg x), 27, .inl v41)), (a36, .inl (gI (xg x), 60, .inl v42)), (a37, .inl (gI (xg x), 3, .inl v43))] ++ ZP (xg x) a39 v45) (rest := []) (c_L_anagramAt (xl x) (xg x) hst a0 a1 a2 a3 a4 a5 a6 a7 a38 a8 a13 a18 a25 v0 v1 v2 v3 v4 v44 ((((v47 (z4 + 1).toNatClampNeg).toInt64) <<< ((32 : Int32).toInt64 &&& 63)) ||| (((v47 (z4 + 2).toNatClampNeg).toInt64) &&& 4294967295)) (v47 (z4 + 3).toNatClampNeg) h) gL_law_L_anagramAt (by rfl) rfl (by decide +kernel) ⟨⟨(Nat.le_of_ble_eq_true rfl), (Nat.le_of_ble_eq_true rfl)⟩, (Nat.le_trans (show k0 + 2 ≤ k0 + rc by omega) hk.1), (Nat.le_trans (show n0 + 12 ≤ n0 + rs by omega) hk.2)⟩ (Nat.le_of_ble_eq_true rfl) (sb_zr (sb_of [0, 1, 2, 3, 4, 5, 6, 7, 41, 8, 9, 10, 11, 12, 13, 14, 15, 16, 17, 18, 19, 20, 21, 22, 23, 24, 25, 26, 27, 28, 29, 30, 31, 32, 33, 34, 35, 36, 37, 38, 39, 40] rfl rfl)) rfl dL_law_653 (fun v X1 hp => ?_)
    obtain ⟨r102, w103, w104, w105, w106, rfl, rfl, h⟩ := hp
    have hk : k0 + 2 + mc107 ≤ (rm_L_law).cells ∧ n0 + 12 + ms108 ≤ (rm_L_law).slots := ⟨Nat.le_trans (show k0 + 2 + mc107 ≤ k0 + rc by omega) hk.1, Nat.le_trans (show n0 + 12 + ms108 ≤ n0 + rs by omega) hk.2⟩
    refine xw_X (sb_rz (sb_of [0, 1, 2, 3, 4, 5, 6, 7, 9, 10, 11, 12, 13, 14, 15, 16, 17, 18, 19, 20, 21, 22, 23, 24, 25, 26, 27, 28, 29, 30, 31, 32, 33, 34, 35, 36, 37, 38, 39, 40, 41, 8] rfl rfl)) (show ww x (W_L_law (xg x) a0 a1 a2 a3 a4 a5 a6 a7 a8 a9 a10 a11 a12 a13 a14 a15 a16 a17 a18 a19 a20 a21 a22 a23 a24 a25 a26 a27 a28 a29 a30 a31 a32 a33 a34 a35 a36 a37 a38 a39 ab v0 v1 w103 w104 w105 v5 v6 v7 v8 v9 v10 v11 v12 v13 v14 v15 v16 v17 v18 v19 v20 v21 v22 v23 v24 v25 v26 v27 v28 v29 v30 v31 v32 v33 v34 v35 v36 v37 v38 v39 v40 v41 v42 v43 w106 v46 v47 ++ ZP (xg x) a39 v45) [(0, .ref ab), (1, .ref a0), (2, .ref a27), (3, .ref a38), (4, .int z4)] (k0 + 2) (n0 + 12) 656 [.int r102] from ?_)
    refine xw_istore hf (pc := 656) dL_law_656 [(5, .int r102), (0, .ref ab), (1, .ref a0), (2, .ref a27), (3, .ref a38), (4, .int z4)] hn (by decide) rfl ?_
    refine xw_aload_n hf (pc := 658) dL_law_658 rfl 3 rfl ?_
    refine xw_aload_n hf (pc := 659) dL_law_659 rfl 1 rfl ?_
    refine xw_iload hf (pc := 660) dL_law_660 5 rfl ?_
    refine xw_iconst hf (pc := 662) dL_law_662 (v := 1) (by decide) ?_
    refine xw_iadd hf (pc := 663) dL_law_663 ?_
    refine xw_sald hf hX dL_law_664 h.1 ?_
    have h := h.2
    refine xw_i2l hf (pc := 665) dL_law_665 ?_
    refine xw_bipush hf (pc := 666) dL_law_666 (v := 32) (by decide) ?_
    refine xw_lshl hf (pc := 668) dL_law_668 ?_
    refine xw_aload_n hf (pc := 669) dL_law_669 rfl 1 rfl ?_
    refine xw_iload hf (pc := 670) dL_law_670 5 rfl ?_
    refine xw_iconst hf (pc := 672) dL_law_672 (v := 2) (by decide) ?_
    refine xw_iadd hf (pc := 673) dL_law_673 ?_
    refine xw_sald hf hX dL_law_674 h.1 ?_
    have h := h.2
    refine xw_i2l hf (pc := 675) dL_law_675 ?_
    refine xw_ldc2 hf (pc := 676) dL_law_676 mw_L_law_0 ?_
    refine xw_land hf (pc := 679) dL_law_679 ?_
    refine xw_lor hf (pc := 680) dL_law_680 ?_
    refine xw_aload_n hf (pc := 681) dL_law_681 rfl 1 rfl ?_
    refine xw_iload hf (pc := 682) dL_law_682 5 rfl ?_
    refine xw_iconst hf (pc := 684) dL_law_684 (v := 3) (by decide) ?_
    refine xw_iadd hf (pc := 685) dL_law_685 ?_
    refine xw_sald hf hX dL_law_686 h.1 ?_
    have h := h.2
    refine xw_callV hf (pc := 687) (nA := 2) (Xr := [(a0, .inr (8, [.ref a1, .ref a8, .ref a13, .ref a18, .ref a25])), (a1, .inr (2, [.ref a2, .ref a4, .ref a6])), (a2, .inr (7, [.ref a3, .int v0])), (a3, .inl (gJ (xg x), 60, .inr (.inl v1))), (a4, .inr (7, [.ref a5, .int w103])), (a5, .inl (gJ (xg x), 60, .inr (.inl w104))), (a6, .inr (3, [.ref a7])), (a7, .inl (gI (xg x), 32, .inl w105)), (a8, .inr (6, [.ref a9, .ref a11, .ref a12])), (a9, .inr (3, [.ref a10])), (a10, .inl (gI (xg x), 32, .inl v5)), (a11, .inl (gI (xg x), 32, .inl v6)), (a12, .inl (gI (xg x), 32, .inl v7)), (a13, .inr (1, [.ref a39, .ref a14, .ref a16, .int v8])), (a14, .inr (3, [.ref a15])), (a15, .inl (gI (xg x), 32, .inl v9)), (a16, .inr (3, [.ref a17])), (a17, .inl (gI (xg x), 32, .inl v10)), (a18, .inr (4, [.ref a19, .ref a21, .ref a23, .int v11, .int v12])), (a19, .inr (3, [.ref a20])), (a20, .inl (gI (xg x), 32, .inl v13)), (a21, .inr (7, [.ref a22, .int v14])), (a22, .inl (gJ (xg x), 60, .inr (.inl v15))), (a23, .inr (7, [.ref a24, .int v16])), (a24, .inl (gJ (xg x), 60, .inr (.inl v17))), (a25, .inr (3, [.ref a26])), (a26, .inl (gI (xg x), 32, .inl v18)), (a29, .inl (gI (xg x), 27, .inl v26)), (a30, .inl (gI (xg x), 27, .inl v27)), (a31, .inl (gI (xg x), 27, .inl v28)), (a32, .inl (gI (xg x), 27, .inl v29)), (v30, .inl (gJ (xg x), v31, .inr (.inl v32))), (v33, .inl (gI (xg x), v34, .inl v35)), (v36, .inl (gZ (xg x), v37, .inl v38)), (a35, .inl (gI (xg x), 27, .inl v41)), (a36, .inl (gI (xg x), 60, .inl v42)), (a37, .inl (gI (xg x), 3, .inl v43)), (a38, .inl (gJ (xg x), 1, .inr (.inl w106)))] ++ ZP (xg x) a39 v45) (rest := []) (T := TX9) (c_X9_anagramAt (xl x) (xg x) a27 a28 a33 a34 a29 a30 a31 a32 v30 v33 v36 a35 a36 a37 v19 v20 v21 v22 v23 v24 v25 v39 v40 ((((v47 (z4 + 1).toNatClampNeg).toInt64) <<< ((32 : Int32).toInt64 &&& 63)) ||| (((v47 (z4 + 2).toNatClampNeg).toInt64) &&& 4294967295)) (v47 (z4 + 3).toNatClampNeg) h) gL_law_X9_anagramAt (by rfl) rfl rfl (by decide +kernel) ⟨⟨(Nat.le_of_ble_eq_true rfl), (Nat.le_of_ble_eq_true rfl)⟩, (Nat.le_trans (Nat.le_add_right _ _) hk.1), (Nat.le_trans (Nat.le_add_right _ _) hk.2)⟩ (Nat.le_of_ble_eq_true rfl) rfl rfl (sb_zr (sb_of [27, 28, 36, 37, 0, 1, 2, 3, 4, 5, 6, 7, 8, 9, 10, 11, 12, 13, 14, 15, 16, 17, 18, 19, 20, 21, 22, 23, 24, 25, 26, 29, 30, 31, 32, 33, 34, 35, 38, 39, 40, 41] rfl rfl)) rfl dL_law_687 (fun v X1 hp => ?_)
    obtain ⟨r109, w110, w111, w112, w113, rfl, rfl, h⟩ := hp
    refine xw_X (sb_rz (sb_of [4, 5, 6, 7, 8, 9, 10, 11, 12, 13, 14, 15, 16, 17, 18, 19, 20, 21, 22, 23, 24, 25, 26, 27, 28, 29, 30, 0, 1, 31, 32, 33, 34, 35, 36, 37, 2, 3, 38, 39, 40, 41] rfl rfl)) (show ww x (W_L_law (xg x) a0 a1 a2 a3 a4 a5 a6 a7 a8 a9 a10 a11 a12 a13 a14 a15 a16 a17 a18 a19 a20 a21 a22 a23 a24 a25 a26 a27 a28 a29 a30 a31 a32 a33 a34 a35 a36 a37 a38 a39 ab v0 v1 w103 w104 w105 v5 v6 v7 v8 v9 v10 v11 v12 v13 v14 v15 v16 v17 v18 w110 v20 v21 v22 w111 v24 v25 v26 v27 v28 v29 v30 v31 v32 v33 v34 v35 v36 v37 v38 w112 w113 v41 v42 v43 w106 v46 v47 ++ ZP (xg x) a39 v45) [(5, .int r102), (0, .ref ab), (1, .ref a0), (2, .ref a27), (3, .ref a38), (4, .int z4)] (k0 + 2) (n0 + 12) 690 [.long r109] from ?_)
    refine xw_lstore hf (pc := 690) dL_law_690 [(6, .long r109), (5, .int r102), (0, .ref ab), (1, .ref a0), (2, .ref a27), (3, .ref a38), (4, .int z4)] hn (by decide) rfl ?_
    refine xw_aload_n hf (pc := 692) dL_law_692 rfl 4 rfl ?_
    refine xw_callV hf (pc := 693) (nA := 0) (Xr := [(a0, .inr (8, [.ref a1, .ref a8, .ref a13, .ref a18, .ref a25])), (a1, .inr (2, [.ref a2, .ref a4, .ref a6])), (a2, .inr (7, [.ref a3, .int v0])), (a3, .inl (gJ (xg x), 60, .inr (.inl v1))), (a4, .inr (7, [.ref a5, .int w103])), (a5, .inl (gJ (xg x), 60, .inr (.inl w104))), (a6, .inr (3, [.ref a7])), (a7, .inl (gI (xg x), 32, .inl w105)), (a8, .inr (6, [.ref a9, .ref a11, .ref a12])), (a9, .inr (3, [.ref a10])), (a10, .inl (gI (xg x), 32, .inl v5)), (a11, .inl (gI (xg x), 32, .inl v6)), (a12, .inl (gI (xg x), 32, .inl v7)), (a13, .inr (1, [.ref a39, .ref a14, .ref a16, .int v8])), (a14, .inr (3, [.ref a15])), (a15, .inl (gI (xg x), 32, .inl v9)), (a16, .inr (3, [.ref a17])), (a17, .inl (gI (xg x), 32, .inl v10)), (a18, .inr (4, [.ref a19, .ref a21, .ref a23, .int v11, .int v12])), (a19, .inr (3, [.ref a20])), (a20, .inl (gI (xg x), 32, .inl v13)), (a21, .inr (7, [.ref a22, .int v14])), (a22, .inl (gJ (xg x), 60, .inr (.inl v15))), (a23, .inr (7, [.ref a24, .int v16])), (a24, .inl (gJ (xg x), 60, .inr (.inl v17))), (a25, .inr (3, [.ref a26])), (a26, .inl (gI (xg x), 32, .inl v18)), (a28, .inl (gJ (xg x), 60, .inr (.inl v25))), (a29, .inl (gI (xg x), 27, .inl v26)), (a30, .inl (gI (xg x), 27, .inl v27)), (a31, .inl (gI (xg x), 27, .inl v28)), (a32, .inl (gI (xg x), 27, .inl v29)), (v30, .inl (gJ (xg x), v31, .inr (.inl v32))), (v33, .inl (gI (xg x), v34, .inl v35)), (v36, .inl (gZ (xg x), v37, .inl v38)), (a33, .inl (gI (xg x), 12, .inl w112)), (a34, .inl (gI (xg x), 27, .inl w113)), (a35, .inl (gI (xg x), 27, .inl v41)), (a36, .inl (gI (xg x), 60, .inl v42)), (a37, .inl (gI (xg x), 3, .inl v43)), (a38, .inl (gJ (xg x), 1, .inr (.inl w106)))] ++ ZP (xg x) a39 v45) (rest := []) (T := TX9) (c_X9_thrown (xl x) (xg x) a27 a28 a29 a30 a31 a32 v30 v33 v36 a33 a34 a35 a36 a37 w110 v20 v21 v22 w111 v24 h) gL_law_X9_thrown (by rfl) rfl rfl (by decide +kernel) ⟨⟨(Nat.le_of_ble_eq_true rfl), (Nat.le_of_ble_eq_true rfl)⟩, (Nat.le_trans (Nat.le_add_right _ _) hk.1), (Nat.le_trans (Nat.le_add_right _ _) hk.2)⟩ (Nat.le_of_ble_eq_true rfl) rfl rfl (sb_zr (sb_of [27, 0, 1, 2, 3, 4, 5, 6, 7, 8, 9, 10, 11, 12, 13, 14, 15, 16, 17, 18, 19, 20, 21, 22, 23, 24, 25, 26, 28, 29, 30, 31, 32, 33, 34, 35, 36, 37, 38, 39, 40, 41] rfl rfl)) rfl dL_law_693 (fun v X1 hp => ?_)
    obtain ⟨r114, rfl, rfl, h⟩ := hp
    refine xw_X (sb_rz (sb_of [1, 2, 3, 4, 5, 6, 7, 8, 9, 10, 11, 12, 13, 14, 15, 16, 17, 18, 19, 20, 21, 22, 23, 24, 25, 26, 27, 0, 28, 29, 30, 31, 32, 33, 34, 35, 36, 37, 38, 39, 40, 41] rfl rfl)) (show ww x (W_L_law (xg x) a0 a1 a2 a3 a4 a5 a6 a7 a8 a9 a10 a11 a12 a13 a14 a15 a16 a17 a18 a19 a20 a21 a22 a23 a24 a25 a26 a27 a28 a29 a30 a31 a32 a33 a34 a35 a36 a37 a38 a39 ab v0 v1 w103 w104 w105 v5 v6 v7 v8 v9 v10 v11 v12 v13 v14 v15 v16 v17 v18 w110 v20 v21 v22 w111 v24 v25 v26 v27 v28 v29 v30 v31 v32 v33 v34 v35 v36 v37 v38 w112 w113 v41 v42 v43 w106 v46 v47 ++ ZP (xg x) a39 v45) [(6, .long r109), (5, .int r102), (0, .ref ab), (1, .ref a0), (2, .ref a27), (3, .ref a38), (4, .int z4)] (k0 + 2) (n0 + 12) 696 [.int r114] from ?_)
    refine xw_iload hf (pc := 696) dL_law_696 1 rfl ?_
    refine xw_icmp_eq hf (pc := 698) dL_law_698 (tgt := 703) rfl ⟨fun c => ?_, fun c => ?_⟩
    · have h := h.1 c
      refine xw_iload hf (pc := 703) dL_law_703 1 rfl ?_
      refine xw_if_ne hf (pc := 705) dL_law_705 (c := r102 = 0) Iff.rfl (tgt := 719) rfl ⟨fun c => ?_, fun c => ?_⟩
      · have h := h.1 c
        refine xw_aload_n hf (pc := 708) dL_law_708 rfl 5 rfl ?_
        refine xw_iconst hf (pc := 709) dL_law_709 (v := 0) (by decide) ?_
        refine xw_lald hf (pc := 710) dL_law_710 41 rfl h.1 ?_
        have h := h.2
        refine xw_lload hf (pc := 711) dL_law_711 0 rfl ?_
        refine xw_lcmp hf (pc := 713) dL_law_713 ?_
        refine xw_if_eq hf (pc := 714) dL_law_714 (c := (w106 (0 : Int32).toNatClampNeg) = r109) (lc_eq _ _) (tgt := 719) rfl ⟨fun c => ?_, fun c => ?_⟩
        · have h := h.1 c
          refine xw_goto hf (pc := 719) dL_law_719 (tgt := 2681) rfl ?_
          refine xw_L [2, 3, 4, 5, 6] rfl ?_
          exact hK2681 _ _ _ _ hk _ _ _ _ _ _ _ _ h
        · have h := h.2 c
          refine xw_iconst hf (pc := 717) dL_law_717 (v := 0) (by decide) ?_
          exact h.elim
      · have h := h.2 c
        refine xw_goto hf (pc := 719) dL_law_719 (tgt := 2681) rfl ?_
        refine xw_L [2, 3, 4, 5, 6] rfl ?_
        exact hK2681 _ _ _ _ hk _ _ _ _ _ _ _ _ h
    · have h := h.2 c
      refine xw_iconst hf (pc := 701) dL_law_701 (v := 0) (by decide) ?_
      exact h.elim
set_option maxHeartbeats 4000000 in
set_option maxRecDepth 100000 in
theorem w_L_law_L722 {x : Cx} {mc ms : Nat} (hf : fx x (rm_L_law) RL cL_law wsL_law) (hn : xn x = 8) {k0 n0 rc rs : Nat} (hk : k0 + rc ≤ (rm_L_law).cells ∧ n0 + rs ≤ (rm_L_law).slots) (a0 a1 a2 a3 a4 a5 a6 a7 a8 a9 a10 a11 a12 a13 a14 a15 a16 a17 a18 a19 a20 a21 a22 a23 a24 a25 a26 a27 a28 a29 a30 a31 a32 a33 a34 a35 a36 a37 a38 a39 ab : Nat) (z4 : Int32) (v0 : Int32) (v1 : Nat → Int64) (v20 : Int32) (v21 : Int32) (v22 : Int32) (v24 : Int32) (v25 : Nat → Int64) (v5 : Nat → Int32) (v6 : Nat → Int32) (v7 : Nat → Int32) (v8 : Int32) (v9 : Nat → Int32) (v10 : Nat → Int32) (v11 : Int32) (v12 : Int32) (v13 : Nat → Int32) (v14 : Int32) (v15 : Nat → Int64) (v16 : Int32) (v17 : Nat → Int64) (v18 : Nat → Int32) (v26 : Nat → Int32) (v27 : Nat → Int32) (v28 : Nat → Int32) (v29 : Nat → Int32) (v30 : Nat) (v31 : Nat) (v32 : Nat → Int64) (v33 : Nat) (v34 : Nat) (v35 : Nat → Int32) (v36 : Nat) (v37 : Nat) (v38 : Nat → Int32) (v41 : Nat → Int32) (v42 : Nat → Int32) (v43 : Nat → Int32) (v44 : Nat → Int64) (v45 : ZL) (v46 : Nat) (v47 : Nat → Int32) {K2681 : Nat → Nat → Int32 → (Nat → Int64) → (Nat → Int32) → Int32 → Int32 → (Nat → Int32) → (Nat → Int32) → Prop} (hst : (xl x).stackTraces = false) (hX : sX x ab v46 v47)
    (n : Nat) (v2 : Int32) (v3 : Nat → Int64) (v4 : Nat → Int32) (v19 : Int32) (v23 : Int32) (v39 : Nat → Int32) (v40 : Nat → Int32) (h : P_L_law_L722 z4 v0 v1 v20 v21 v22 v24 v25 K2681 n rc rs v2 v3 v4 v19 v23 v39 v40)
    (hK2681 : ∀ (k0 n0 rc rs : Nat), k0 + rc ≤ (rm_L_law).cells ∧ n0 + rs ≤ (rm_L_law).slots → ∀ (uv2 : Int32), ∀ (uv3 : Nat → Int64), ∀ (uv4 : Nat → Int32), ∀ (uv19 : Int32), ∀ (uv23 : Int32), ∀ (uv39 : Nat → Int32), ∀ (uv40 : Nat → Int32), K2681 rc rs uv2 uv3 uv4 uv19 uv23 uv39 uv40 → ww x (W_L_law (xg x) a0 a1 a2 a3 a4 a5 a6 a7 a8 a9 a10 a11 a12 a13 a14 a15 a16 a17 a18 a19 a20 a21 a22 a23 a24 a25 a26 a27 a28 a29 a30 a31 a32 a33 a34 a35 a36 a37 a38 a39 ab v0 v1 uv2 uv3 uv4 v5 v6 v7 v8 v9 v10 v11 v12 v13 v14 v15 v16 v17 v18 uv19 v20 v21 v22 uv23 v24 v25 v26 v27 v28 v29 v30 v31 v32 v33 v34 v35 v36 v37 v38 uv39 uv40 v41 v42 v43 v44 v46 v47 ++ ZP (xg x) a39 v45) [(0, .ref ab), (1, .ref a0), (2, .ref a27), (3, .ref a38), (4, .int z4)] k0 n0 2681 []) :
    ww x (W_L_law (xg x) a0 a1 a2 a3 a4 a5 a6 a7 a8 a9 a10 a11 a12 a13 a14 a15 a16 a17 a18 a19 a20 a21 a22 a23 a24 a25 a26 a27 a28 a29 a30 a31 a32 a33 a34 a35 a36 a37 a38 a39 ab v0 v1 v2 v3 v4 v5 v6 v7 v8 v9 v10 v11 v12 v13 v14 v15 v16 v17 v18 v19 v20 v21 v22 v23 v24 v25 v26 v27 v28 v29 v30 v31 v32 v33 v34 v35 v36 v37 v38 v39 v40 v41 v42 v43 v44 v46 v47 ++ ZP (xg x) a39 v45) [(0, .ref ab), (1, .ref a0), (2, .ref a27), (3, .ref a38), (4, .int z4)] k0 n0 722 [] := by
  induction n generalizing k0 n0 rc rs v2 v3 v4 v19 v23 v39 v40 with
  | zero => exact h.elim
  | succ n ih =>
    unfold P_L_law_L722 at h
    refine xw_aload_n hf (pc := 722) dL_law_722 rfl 1 rfl ?_
    refine xw_callV hf (pc := 723) (nA := 0) (Xr := [(a8, .inr (6, [.ref a9, .ref a11, .ref a12])), (a9, .inr (3, [.ref a10])), (a10, .inl (gI (xg x), 32, .inl v5)), (a11, .inl (gI (xg x), 32, .inl v6)), (a12, .inl (gI (xg x), 32, .inl v7)), (a13, .inr (1, [.ref a39, .ref a14, .ref a16, .int v8])), (a14, .inr (3, [.ref a15])), (a15, .inl (gI (xg x), 32, .inl v9)), (a16, .inr (3, [.ref a17])), (a17, .inl (gI (xg x), 32, .inl v10)), (a18, .inr (4, [.ref a19, .ref a21, .ref a23, .int v11, .int v12])), (a19, .inr (3, [.ref a20])), (a20, .inl (gI (xg x), 32, .inl v13)), (a21, .inr (7, [.ref a22, .int v14])), (a22, .inl (gJ (xg x), 60, .inr (.inl v15))), (a23, .inr (7, [.ref a24, .int v16])), (a24, .inl (gJ (xg x), 60, .inr (.inl v17))), (a25, .inr (3, [.ref a26])), (a26, .inl (gI (xg x), 32, .inl v18)), (a27, .inr (9, [.int v19, .ref a28, .int v20, .ref a29, .ref a30, .ref a31, .ref a32, .ref v30, .ref v33, .ref v36, .int v21, .int v22, .ref a33, .int v23, .ref a34, .ref a35, .ref a36, .ref a37, .int v24])), (a28, .inl (gJ (xg x), 60, .inr (.inl v25))), (a29, .inl (gI (xg x), 27, .inl v26)), (a30, .inl (gI (xg x), 27, .inl v27)), (a31, .inl (gI (xg x), 27, .inl v28)), (a32, .inl (gI (xg x), 27, .inl v29)), (v30, .inl (gJ (xg x), v31, .inr (.inl v32))), (v33, .inl (gI (xg x), v34, .inl v35)), (v36, .inl (gZ (xg x), v37, .inl v38)), (a33, .inl (gI (xg x), 12, .inl v39)), (a34, .inl (gI (xg x), 27, .inl v40)), (a35, .inl (gI (xg x), 27, .inl v41)), (a36, .inl (gI (xg x), 60, .inl v42)), (a37, .inl (gI (xg x), 3, .inl v43)), (a38, .inl (gJ (xg x), 1, .inr (.inl v44)))] ++ ZP (xg x) a39 v45) (rest := []) (T := TX8) (c_X8_largestAnagramGroup (xl x) (xg x) a0 a1 a2 a3 a4 a5 a6 a7 a8 a13 a18 a25 v0 v1 v2 v3 v4 h) gL_law_X8_largestAnagramGroup (by rfl) rfl rfl (by decide +kernel) ⟨⟨(Nat.le_of_ble_eq_true rfl), (Nat.le_of_ble_eq_true rfl)⟩, (Nat.le_trans (Nat.le_add_right _ _) hk.1), (Nat.le_trans (Nat.le_add_right _ _) hk.2)⟩ (Nat.le_of_ble_eq_true rfl) rfl rfl (sb_zr (sb_of [0, 1, 2, 3, 4, 5, 6, 7, 8, 9, 10, 11, 12, 13, 14, 15, 16, 17, 18, 19, 20, 21, 22, 23, 24, 25, 26, 27, 28, 29, 30, 31, 32, 33, 34, 35, 36, 37, 38, 39, 40, 41] rfl rfl)) rfl dL_law_723 (fun v X1 hp => ?_)
    obtain ⟨r127, w128, w129, w130, rfl, rfl, h⟩ := hp
    refine xw_X (sb_rz (sb_of [0, 1, 2, 3, 4, 5, 6, 7, 8, 9, 10, 11, 12, 13, 14, 15, 16, 17, 18, 19, 20, 21, 22, 23, 24, 25, 26, 27, 28, 29, 30, 31, 32, 33, 34, 35, 36, 37, 38, 39, 40, 41] rfl rfl)) (show ww x (W_L_law (xg x) a0 a1 a2 a3 a4 a5 a6 a7 a8 a9 a10 a11 a12 a13 a14 a15 a16 a17 a18 a19 a20 a21 a22 a23 a24 a25 a26 a27 a28 a29 a30 a31 a32 a33 a34 a35 a36 a37 a38 a39 ab v0 v1 w128 w129 w130 v5 v6 v7 v8 v9 v10 v11 v12 v13 v14 v15 v16 v17 v18 v19 v20 v21 v22 v23 v24 v25 v26 v27 v28 v29 v30 v31 v32 v33 v34 v35 v36 v37 v38 v39 v40 v41 v42 v43 v44 v46 v47 ++ ZP (xg x) a39 v45) [(0, .ref ab), (1, .ref a0), (2, .ref a27), (3, .ref a38), (4, .int z4)] k0 n0 726 [.int r127] from ?_)
    refine xw_aload_n hf (pc := 726) dL_law_726 rfl 2 rfl ?_
    refine xw_callV hf (pc := 727) (nA := 0) (Xr := [(a0, .inr (8, [.ref a1, .ref a8, .ref a13, .ref a18, .ref a25])), (a1, .inr (2, [.ref a2, .ref a4, .ref a6])), (a2, .inr (7, [.ref a3, .int v0])), (a3, .inl (gJ (xg x), 60, .inr (.inl v1))), (a4, .inr (7, [.ref a5, .int w128])), (a5, .inl (gJ (xg x), 60, .inr (.inl w129))), (a6, .inr (3, [.ref a7])), (a7, .inl (gI (xg x), 32, .inl w130)), (a8, .inr (6, [.ref a9, .ref a11, .ref a12])), (a9, .inr (3, [.ref a10])), (a10, .inl (gI (xg x), 32, .inl v5)), (a11, .inl (gI (xg x), 32, .inl v6)), (a12, .inl (gI (xg x), 32, .inl v7)), (a13, .inr (1, [.ref a39, .ref a14, .ref a16, .int v8])), (a14, .inr (3, [.ref a15])), (a15, .inl (gI (xg x), 32, .inl v9)), (a16, .inr (3, [.ref a17])), (a17, .inl (gI (xg x), 32, .inl v10)), (a18, .inr (4, [.ref a19, .ref a21, .ref a23, .int v11, .int v12])), (a19, .inr (3, [.ref a20])), (a20, .inl (gI (xg x), 32, .inl v13)), (a21, .inr (7, [.ref a22, .int v14])), (a22, .inl (gJ (xg x), 60, .inr (.inl v15))), (a23, .inr (7, [.ref a24, .int v16])), (a24, .inl (gJ (xg x), 60, .inr (.inl v17))), (a25, .inr (3, [.ref a26])), (a26, .inl (gI (xg x), 32, .inl v18)), (a29, .inl (gI (xg x), 27, .inl v26)), (a30, .inl (gI (xg x), 27, .inl v27)), (a31, .inl (gI (xg x), 27, .inl v28)), (a32, .inl (gI (xg x), 27, .inl v29)), (v30, .inl (gJ (xg x), v31, .inr (.inl v32))), (v33, .inl (gI (xg x), v34, .inl v35)), (v36, .inl (gZ (xg x), v37, .inl v38)), (a35, .inl (gI (xg x), 27, .inl v41)), (a36, .inl (gI (xg x), 60, .inl v42)), (a37, .inl (gI (xg x), 3, .inl v43)), (a38, .inl (gJ (xg x), 1, .inr (.inl v44)))] ++ ZP (xg x) a39 v45) (rest := [.int r127]) (T := TX9) (c_X9_largestAnagramGroup (xl x) (xg x) a27 a28 a33 a34 a29 a30 a31 a32 v30 v33 v36 a35 a36 a37 v19 v20 v21 v22 v23 v24 v25 v39 v40 h) gL_law_X9_largestAnagramGroup (by rfl) rfl rfl (by decide +kernel) ⟨⟨(Nat.le_of_ble_eq_true rfl), (Nat.le_of_ble_eq_true rfl)⟩, (Nat.le_trans (Nat.le_add_right _ _) hk.1), (Nat.le_trans (Nat.le_add_right _ _) hk.2)⟩ (Nat.le_of_ble_eq_true rfl) rfl rfl (sb_zr (sb_of [27, 28, 36, 37, 0, 1, 2, 3, 4, 5, 6, 7, 8, 9, 10, 11, 12, 13, 14, 15, 16, 17, 18, 19, 20, 21, 22, 23, 24, 25, 26, 29, 30, 31, 32, 33, 34, 35, 38, 39, 40, 41] rfl rfl)) rfl dL_law_727 (fun v X1 hp => ?_)
    obtain ⟨r131, w132, w133, w134, w135, rfl, rfl, h⟩ := hp
    refine xw_X (sb_rz (sb_of [4, 5, 6, 7, 8, 9, 10, 11, 12, 13, 14, 15, 16, 17, 18, 19, 20, 21, 22, 23, 24, 25, 26, 27, 28, 29, 30, 0, 1, 31, 32, 33, 34, 35, 36, 37, 2, 3, 38, 39, 40, 41] rfl rfl)) (show ww x (W_L_law (xg x) a0 a1 a2 a3 a4 a5 a6 a7 a8 a9 a10 a11 a12 a13 a14 a15 a16 a17 a18 a19 a20 a21 a22 a23 a24 a25 a26 a27 a28 a29 a30 a31 a32 a33 a34 a35 a36 a37 a38 a39 ab v0 v1 w128 w129 w130 v5 v6 v7 v8 v9 v10 v11 v12 v13 v14 v15 v16 v17 v18 w132 v20 v21 v22 w133 v24 v25 v26 v27 v28 v29 v30 v31 v32 v33 v34 v35 v36 v37 v38 w134 w135 v41 v42 v43 v44 v46 v47 ++ ZP (xg x) a39 v45) [(0, .ref ab), (1, .ref a0), (2, .ref a27), (3, .ref a38), (4, .int z4)] k0 n0 730 [.int r131, .int r127] from ?_)
    refine xw_icmp_eq hf (pc := 730) dL_law_730 (tgt := 2681) rfl ⟨fun c => ?_, fun c => ?_⟩
    · have h := h.1 c
      refine xw_L [0, 1, 2, 3, 4] rfl ?_
      exact hK2681 _ _ _ _ hk _ _ _ _ _ _ _ h
    · have h := h.2 c
      refine xw_iconst hf (pc := 733) dL_law_733 (v := 0) (by decide) ?_
      exact h.elim
set_option maxHeartbeats 4000000 in
set_option maxRecDepth 100000 in
theorem w_L_law_L735 {x : Cx} {mc ms : Nat} (hf : fx x (rm_L_law) RL cL_law wsL_law) (hn : xn x = 8) {k0 n0 rc rs : Nat} (hk : k0 + rc ≤ (rm_L_law).cells ∧ n0 + rs ≤ (rm_L_law).slots) (a0 a1 a2 a3 a4 a5 a6 a7 a8 a9 a10 a11 a12 a13 a14 a15 a16 a17 a18 a19 a20 a21 a22 a23 a24 a25 a26 a27 a28 a29 a30 a31 a32 a33 a34 a35 a36 a37 a38 a39 ab : Nat) (z4 : Int32) (v0 : Int32) (v1 : Nat → Int64) (v20 : Int32) (v21 : Int32) (v22 : Int32) (v24 : Int32) (v25 : Nat → Int64) (v46 : Nat) (v47 : Nat → Int32) (v5 : Nat → Int32) (v6 : Nat → Int32) (v7 : Nat → Int32) (v8 : Int32) (v9 : Nat → Int32) (v10 : Nat → Int32) (v11 : Int32) (v12 : Int32) (v13 : Nat → Int32) (v14 : Int32) (v15 : Nat → Int64) (v16 : Int32) (v17 : Nat → Int64) (v18 : Nat → Int32) (v26 : Nat → Int32) (v27 : Nat → Int32) (v28 : Nat → Int32) (v29 : Nat → Int32) (v30 : Nat) (v31 : Nat) (v32 : Nat → Int64) (v33 : Nat) (v34 : Nat) (v35 : Nat → Int32) (v36 : Nat) (v37 : Nat) (v38 : Nat → Int32) (v41 : Nat → Int32) (v42 : Nat → Int32) (v43 : Nat → Int32) (v45 : ZL) {K2681 : Nat → Nat → Int32 → (Nat → Int64) → (Nat → Int32) → Int32 → Int32 → (Nat → Int32) → (Nat → Int32) → (Nat → Int64) → Prop} (hst : (xl x).stackTraces = false) (hX : sX x ab v46 v47)
    (n : Nat) (v2 : Int32) (v3 : Nat → Int64) (v4 : Nat → Int32) (v19 : Int32) (v23 : Int32) (v39 : Nat → Int32) (v40 : Nat → Int32) (v44 : Nat → Int64) (h : P_L_law_L735 z4 v0 v1 v20 v21 v22 v24 v25 v46 v47 K2681 n rc rs v2 v3 v4 v19 v23 v39 v40 v44)
    (hK2681 : ∀ (k0 n0 rc rs : Nat), k0 + rc ≤ (rm_L_law).cells ∧ n0 + rs ≤ (rm_L_law).slots → ∀ (uv2 : Int32), ∀ (uv3 : Nat → Int64), ∀ (uv4 : Nat → Int32), ∀ (uv19 : Int32), ∀ (uv23 : Int32), ∀ (uv39 : Nat → Int32), ∀ (uv40 : Nat → Int32), ∀ (uv44 : Nat → Int64), K2681 rc rs uv2 uv3 uv4 uv19 uv23 uv39 uv40 uv44 → ww x (W_L_law (xg x) a0 a1 a2 a3 a4 a5 a6 a7 a8 a9 a10 a11 a12 a13 a14 a15 a16 a17 a18 a19 a20 a21 a22 a23 a24 a25 a26 a27 a28 a29 a30 a31 a32 a33 a34 a35 a36 a37 a38 a39 ab v0 v1 uv2 uv3 uv4 v5 v6 v7 v8 v9 v10 v11 v12 v13 v14 v15 v16 v17 v18 uv19 v20 v21 v22 uv23 v24 v25 v26 v27 v28 v29 v30 v31 v32 v33 v34 v35 v36 v37 v38 uv39 uv40 v41 v42 v43 uv44 v46 v47 ++ ZP (xg x) a39 v45) [(0, .ref ab), (1, .ref a0), (2, .ref a27), (3, .ref a38), (4, .int z4)] k0 n0 2681 []) :
    ww x (W_L_law (xg x) a0 a1 a2 a3 a4 a5 a6 a7 a8 a9 a10 a11 a12 a13 a14 a15 a16 a17 a18 a19 a20 a21 a22 a23 a24 a25 a26 a27 a28 a29 a30 a31 a32 a33 a34 a35 a36 a37 a38 a39 ab v0 v1 v2 v3 v4 v5 v6 v7 v8 v9 v10 v11 v12 v13 v14 v15 v16 v17 v18 v19 v20 v21 v22 v23 v24 v25 v26 v27 v28 v29 v30 v31 v32 v33 v34 v35 v36 v37 v38 v39 v40 v41 v42 v43 v44 v46 v47 ++ ZP (xg x) a39 v45) [(0, .ref ab), (1, .ref a0), (2, .ref a27), (3, .ref a38), (4, .int z4)] k0 n0 735 [] := by
  induction n generalizing k0 n0 rc rs v2 v3 v4 v19 v23 v39 v40 v44 with
  | zero => exact h.elim
  | succ n ih =>
    unfold P_L_law_L735 at h
    refine xw_aload_n hf (pc := 735) dL_law_735 rfl 1 rfl ?_
    refine xw_aload_n hf (pc := 736) dL_law_736 rfl 0 rfl ?_
    refine xw_iload hf (pc := 737) dL_law_737 4 rfl ?_
    refine xw_iconst hf (pc := 739) dL_law_739 (v := 1) (by decide) ?_
    refine xw_iadd hf (pc := 740) dL_law_740 ?_
    refine xw_sald hf hX dL_law_741 h.1 ?_
    have h := h.2
    refine xw_i2l hf (pc := 742) dL_law_742 ?_
    refine xw_bipush hf (pc := 743) dL_law_743 (v := 32) (by decide) ?_
    refine xw_lshl hf (pc := 745) dL_law_745 ?_
    refine xw_aload_n hf (pc := 746) dL_law_746 rfl 0 rfl ?_
    refine xw_iload hf (pc := 747) dL_law_747 4 rfl ?_
    refine xw_iconst hf (pc := 749) dL_law_749 (v := 2) (by decide) ?_
    refine xw_iadd hf (pc := 750) dL_law_750 ?_
    refine xw_sald hf hX dL_law_751 h.1 ?_
    have h := h.2
    refine xw_i2l hf (pc := 752) dL_law_752 ?_
    refine xw_ldc2 hf (pc := 753) dL_law_753 mw_L_law_0 ?_
    refine xw_land hf (pc := 756) dL_law_756 ?_
    refine xw_lor hf (pc := 757) dL_law_757 ?_
    refine xw_aload_n hf (pc := 758) dL_law_758 rfl 3 rfl ?_
    obtain ⟨mc152, ms153, ⟨hb1, hb2⟩, h⟩ := h
    refine xw_callSW hf (pc := 759) (nA := 3) (Xr := [(a8, .inr (6, [.ref a9, .ref a11, .ref a12])), (a9, .inr (3, [.ref a10])), (a10, .inl (gI (xg x), 32, .inl v5)), (a11, .inl (gI (xg x), 32, .inl v6)), (a12, .inl (gI (xg x), 32, .inl v7)), (a13, .inr (1, [.ref a39, .ref a14, .ref a16, .int v8])), (a14, .inr (3, [.ref a15])), (a15, .inl (gI (xg x), 32, .inl v9)), (a16, .inr (3, [.ref a17])), (a17, .inl (gI (xg x), 32, .inl v10)), (a18, .inr (4, [.ref a19, .ref a21, .ref a23, .int v11, .int v12])), (a19, .inr (3, [.ref a20])), (a20, .inl (gI (xg x), 32, .inl v13)), (a21, .inr (7, [.ref a22, .int v14])), (a22, .inl (gJ (xg x), 60, .inr (.inl v15))), (a23, .inr (7, [.ref a24, .int v16])), (a24, .inl (gJ (xg x), 60, .inr (.inl v17))), (a25, .inr (3, [.ref a26])), (a26, .inl (gI (xg x), 32, .inl v18)), (a27, .inr (9, [.int v19, .ref a28, .int v20, .ref a29, .ref a30, .ref a31, .ref a32, .ref v30, .ref v33, .ref v36, .int v21, .int v22, .ref a33, .int v23, .ref a34, .ref a35, .ref a36, .ref a37, .int v24])), (a28, .inl (gJ (xg x), 60, .inr (.inl v25))), (a29, .inl (gI (xg x), 27, .inl v26)), (a30, .inl (gI (xg x), 27, .inl v27)), (a31, .inl (gI (xg x), 27, .inl v28)), (a32, .inl (gI (xg x), 27, .inl v29)), (v30, .inl (gJ (xg x), v31, .inr (.inl v32))), (v33, .inl (gI (xg x), v34, .inl v35)), (v36, .inl (gZ (xg x), v37, .inl v38)), (a33, .inl (gI (xg x), 12, .inl v39)), (a34, .inl (gI (xg x), 27, .inl v40)), (a35, .inl (gI (xg x), 27, .inl v41)), (a36, .inl (gI (xg x), 60, .inl v42)), (a37, .inl (gI (xg x), 3, .inl v43))] ++ ZP (xg x) a39 v45) (rest := []) (c_L_fittingCount (xl x) (xg x) hst a0 a1 a2 a3 a4 a5 a6 a7 a38 a8 a13 a18 a25 v0 v1 v2 v3 v4 v44 ((((v47 (z4 + 1).toNatClampNeg).toInt64) <<< ((32 : Int32).toInt64 &&& 63)) ||| (((v47 (z4 + 2).toNatClampNeg).toInt64) &&& 4294967295)) h) gL_law_L_fittingCount (by rfl) rfl (by decide +kernel) ⟨⟨(Nat.le_of_ble_eq_true rfl), (Nat.le_of_ble_eq_true rfl)⟩, (Nat.le_trans (show k0 + 1 ≤ k0 + rc by omega) hk.1), (Nat.le_trans (show n0 + 6 ≤ n0 + rs by omega) hk.2)⟩ (Nat.le_of_ble_eq_true rfl) (sb_zr (sb_of [0, 1, 2, 3, 4, 5, 6, 7, 41, 8, 9, 10, 11, 12, 13, 14, 15, 16, 17, 18, 19, 20, 21, 22, 23, 24, 25, 26, 27, 28, 29, 30, 31, 32, 33, 34, 35, 36, 37, 38, 39, 40] rfl rfl)) rfl dL_law_759 (fun v X1 hp => ?_)
    obtain ⟨r147, w148, w149, w150, w151, rfl, rfl, h⟩ := hp
    have hk : k0 + 1 + mc152 ≤ (rm_L_law).cells ∧ n0 + 6 + ms153 ≤ (rm_L_law).slots := ⟨Nat.le_trans (show k0 + 1 + mc152 ≤ k0 + rc by omega) hk.1, Nat.le_trans (show n0 + 6 + ms153 ≤ n0 + rs by omega) hk.2⟩
    refine xw_X (sb_rz (sb_of [0, 1, 2, 3, 4, 5, 6, 7, 9, 10, 11, 12, 13, 14, 15, 16, 17, 18, 19, 20, 21, 22, 23, 24, 25, 26, 27, 28, 29, 30, 31, 32, 33, 34, 35, 36, 37, 38, 39, 40, 41, 8] rfl rfl)) (show ww x (W_L_law (xg x) a0 a1 a2 a3 a4 a5 a6 a7 a8 a9 a10 a11 a12 a13 a14 a15 a16 a17 a18 a19 a20 a21 a22 a23 a24 a25 a26 a27 a28 a29 a30 a31 a32 a33 a34 a35 a36 a37 a38 a39 ab v0 v1 w148 w149 w150 v5 v6 v7 v8 v9 v10 v11 v12 v13 v14 v15 v16 v17 v18 v19 v20 v21 v22 v23 v24 v25 v26 v27 v28 v29 v30 v31 v32 v33 v34 v35 v36 v37 v38 v39 v40 v41 v42 v43 w151 v46 v47 ++ ZP (xg x) a39 v45) [(0, .ref ab), (1, .ref a0), (2, .ref a27), (3, .ref a38), (4, .int z4)] (k0 + 1) (n0 + 6) 762 [.int r147] from ?_)
    refine xw_istore hf (pc := 762) dL_law_762 [(5, .int r147), (0, .ref ab), (1, .ref a0), (2, .ref a27), (3, .ref a38), (4, .int z4)] hn (by decide) rfl ?_
    refine xw_aload_n hf (pc := 764) dL_law_764 rfl 3 rfl ?_
    refine xw_aload_n hf (pc := 765) dL_law_765 rfl 1 rfl ?_
    refine xw_iload hf (pc := 766) dL_law_766 5 rfl ?_
    refine xw_iconst hf (pc := 768) dL_law_768 (v := 1) (by decide) ?_
    refine xw_iadd hf (pc := 769) dL_law_769 ?_
    refine xw_sald hf hX dL_law_770 h.1 ?_
    have h := h.2
    refine xw_i2l hf (pc := 771) dL_law_771 ?_
    refine xw_bipush hf (pc := 772) dL_law_772 (v := 32) (by decide) ?_
    refine xw_lshl hf (pc := 774) dL_law_774 ?_
    refine xw_aload_n hf (pc := 775) dL_law_775 rfl 1 rfl ?_
    refine xw_iload hf (pc := 776) dL_law_776 5 rfl ?_
    refine xw_iconst hf (pc := 778) dL_law_778 (v := 2) (by decide) ?_
    refine xw_iadd hf (pc := 779) dL_law_779 ?_
    refine xw_sald hf hX dL_law_780 h.1 ?_
    have h := h.2
    refine xw_i2l hf (pc := 781) dL_law_781 ?_
    refine xw_ldc2 hf (pc := 782) dL_law_782 mw_L_law_0 ?_
    refine xw_land hf (pc := 785) dL_law_785 ?_
    refine xw_lor hf (pc := 786) dL_law_786 ?_
    refine xw_callV hf (pc := 787) (nA := 1) (Xr := [(a0, .inr (8, [.ref a1, .ref a8, .ref a13, .ref a18, .ref a25])), (a1, .inr (2, [.ref a2, .ref a4, .ref a6])), (a2, .inr (7, [.ref a3, .int v0])), (a3, .inl (gJ (xg x), 60, .inr (.inl v1))), (a4, .inr (7, [.ref a5, .int w148])), (a5, .inl (gJ (xg x), 60, .inr (.inl w149))), (a6, .inr (3, [.ref a7])), (a7, .inl (gI (xg x), 32, .inl w150)), (a8, .inr (6, [.ref a9, .ref a11, .ref a12])), (a9, .inr (3, [.ref a10])), (a10, .inl (gI (xg x), 32, .inl v5)), (a11, .inl (gI (xg x), 32, .inl v6)), (a12, .inl (gI (xg x), 32, .inl v7)), (a13, .inr (1, [.ref a39, .ref a14, .ref a16, .int v8])), (a14, .inr (3, [.ref a15])), (a15, .inl (gI (xg x), 32, .inl v9)), (a16, .inr (3, [.ref a17])), (a17, .inl (gI (xg x), 32, .inl v10)), (a18, .inr (4, [.ref a19, .ref a21, .ref a23, .int v11, .int v12])), (a19, .inr (3, [.ref a20])), (a20, .inl (gI (xg x), 32, .inl v13)), (a21, .inr (7, [.ref a22, .int v14])), (a22, .inl (gJ (xg x), 60, .inr (.inl v15))), (a23, .inr (7, [.ref a24, .int v16])), (a24, .inl (gJ (xg x), 60, .inr (.inl v17))), (a25, .inr (3, [.ref a26])), (a26, .inl (gI (xg x), 32, .inl v18)), (a29, .inl (gI (xg x), 27, .inl v26)), (a30, .inl (gI (xg x), 27, .inl v27)), (a31, .inl (gI (xg x), 27, .inl v28)), (a32, .inl (gI (xg x), 27, .inl v29)), (v30, .inl (gJ (xg x), v31, .inr (.inl v32))), (v33, .inl (gI (xg x), v34, .inl v35)), (v36, .inl (gZ (xg x), v37, .inl v38)), (a35, .inl (gI (xg x), 27, .inl v41)), (a36, .inl (gI (xg x), 60, .inl v42)), (a37, .inl (gI (xg x), 3, .inl v43)), (a38, .inl (gJ (xg x), 1, .inr (.inl w151)))] ++ ZP (xg x) a39 v45) (rest := []) (T := TX9) (c_X9_fittingCount (xl x) (xg x) a27 a28 a33 a34 a29 a30 a31 a32 v30 v33 v36 a35 a36 a37 v19 v20 v21 v22 v23 v24 v25 v39 v40 ((((v47 (z4 + 1).toNatClampNeg).toInt64) <<< ((32 : Int32).toInt64 &&& 63)) ||| (((v47 (z4 + 2).toNatClampNeg).toInt64) &&& 4294967295)) h) gL_law_X9_fittingCount (by rfl) rfl rfl (by decide +kernel) ⟨⟨(Nat.le_of_ble_eq_true rfl), (Nat.le_of_ble_eq_true rfl)⟩, (Nat.le_trans (Nat.le_add_right _ _) hk.1), (Nat.le_trans (Nat.le_add_right _ _) hk.2)⟩ (Nat.le_of_ble_eq_true rfl) rfl rfl (sb_zr (sb_of [27, 28, 36, 37, 0, 1, 2, 3, 4, 5, 6, 7, 8, 9, 10, 11, 12, 13, 14, 15, 16, 17, 18, 19, 20, 21, 22, 23, 24, 25, 26, 29, 30, 31, 32, 33, 34, 35, 38, 39, 40, 41] rfl rfl)) rfl dL_law_787 (fun v X1 hp => ?_)
    obtain ⟨r154, w155, w156, w157, w158, rfl, rfl, h⟩ := hp
    refine xw_X (sb_rz (sb_of [4, 5, 6, 7, 8, 9, 10, 11, 12, 13, 14, 15, 16, 17, 18, 19, 20, 21, 22, 23, 24, 25, 26, 27, 28, 29, 30, 0, 1, 31, 32, 33, 34, 35, 36, 37, 2, 3, 38, 39, 40, 41] rfl rfl)) (show ww x (W_L_law (xg x) a0 a1 a2 a3 a4 a5 a6 a7 a8 a9 a10 a11 a12 a13 a14 a15 a16 a17 a18 a19 a20 a21 a22 a23 a24 a25 a26 a27 a28 a29 a30 a31 a32 a33 a34 a35 a36 a37 a38 a39 ab v0 v1 w148 w149 w150 v5 v6 v7 v8 v9 v10 v11 v12 v13 v14 v15 v16 v17 v18 w155 v20 v21 v22 w156 v24 v25 v26 v27 v28 v29 v30 v31 v32 v33 v34 v35 v36 v37 v38 w157 w158 v41 v42 v43 w151 v46 v47 ++ ZP (xg x) a39 v45) [(5, .int r147), (0, .ref ab), (1, .ref a0), (2, .ref a27), (3, .ref a38), (4, .int z4)] (k0 + 1) (n0 + 6) 790 [.int r154] from ?_)
    refine xw_istore hf (pc := 790) dL_law_790 [(6, .int r154), (5, .int r147), (0, .ref ab), (1, .ref a0), (2, .ref a27), (3, .ref a38), (4, .int z4)] hn (by decide) rfl ?_
    refine xw_aload_n hf (pc := 792) dL_law_792 rfl 4 rfl ?_
    refine xw_callV hf (pc := 793) (nA := 0) (Xr := [(a0, .inr (8, [.ref a1, .ref a8, .ref a13, .ref a18, .ref a25])), (a1, .inr (2, [.ref a2, .ref a4, .ref a6])), (a2, .inr (7, [.ref a3, .int v0])), (a3, .inl (gJ (xg x), 60, .inr (.inl v1))), (a4, .inr (7, [.ref a5, .int w148])), (a5, .inl (gJ (xg x), 60, .inr (.inl w149))), (a6, .inr (3, [.ref a7])), (a7, .inl (gI (xg x), 32, .inl w150)), (a8, .inr (6, [.ref a9, .ref a11, .ref a12])), (a9, .inr (3, [.ref a10])), (a10, .inl (gI (xg x), 32, .inl v5)), (a11, .inl (gI (xg x), 32, .inl v6)), (a12, .inl (gI (xg x), 32, .inl v7)), (a13, .inr (1, [.ref a39, .ref a14, .ref a16, .int v8])), (a14, .inr (3, [.ref a15])), (a15, .inl (gI (xg x), 32, .inl v9)), (a16, .inr (3, [.ref a17])), (a17, .inl (gI (xg x), 32, .inl v10)), (a18, .inr (4, [.ref a19, .ref a21, .ref a23, .int v11, .int v12])), (a19, .inr (3, [.ref a20])), (a20, .inl (gI (xg x), 32, .inl v13)), (a21, .inr (7, [.ref a22, .int v14])), (a22, .inl (gJ (xg x), 60, .inr (.inl v15))), (a23, .inr (7, [.ref a24, .int v16])), (a24, .inl (gJ (xg x), 60, .inr (.inl v17))), (a25, .inr (3, [.ref a26])), (a26, .inl (gI (xg x), 32, .inl v18)), (a28, .inl (gJ (xg x), 60, .inr (.inl v25))), (a29, .inl (gI (xg x), 27, .inl v26)), (a30, .inl (gI (xg x), 27, .inl v27)), (a31, .inl (gI (xg x), 27, .inl v28)), (a32, .inl (gI (xg x), 27, .inl v29)), (v30, .inl (gJ (xg x), v31, .inr (.inl v32))), (v33, .inl (gI (xg x), v34, .inl v35)), (v36, .inl (gZ (xg x), v37, .inl v38)), (a33, .inl (gI (xg x), 12, .inl w157)), (a34, .inl (gI (xg x), 27, .inl w158)), (a35, .inl (gI (xg x), 27, .inl v41)), (a36, .inl (gI (xg x), 60, .inl v42)), (a37, .inl (gI (xg x), 3, .inl v43)), (a38, .inl (gJ (xg x), 1, .inr (.inl w151)))] ++ ZP (xg x) a39 v45) (rest := []) (T := TX9) (c_X9_thrown (xl x) (xg x) a27 a28 a29 a30 a31 a32 v30 v33 v36 a33 a34 a35 a36 a37 w155 v20 v21 v22 w156 v24 h) gL_law_X9_thrown (by rfl) rfl rfl (by decide +kernel) ⟨⟨(Nat.le_of_ble_eq_true rfl), (Nat.le_of_ble_eq_true rfl)⟩, (Nat.le_trans (Nat.le_add_right _ _) hk.1), (Nat.le_trans (Nat.le_add_right _ _) hk.2)⟩ (Nat.le_of_ble_eq_true rfl) rfl rfl (sb_zr (sb_of [27, 0, 1, 2, 3, 4, 5, 6, 7, 8, 9, 10, 11, 12, 13, 14, 15, 16, 17, 18, 19, 20, 21, 22, 23, 24, 25, 26, 28, 29, 30, 31, 32, 33, 34, 35, 36, 37, 38, 39, 40, 41] rfl rfl)) rfl dL_law_793 (fun v X1 hp => ?_)
    obtain ⟨r159, rfl, rfl, h⟩ := hp
    refine xw_X (sb_rz (sb_of [1, 2, 3, 4, 5, 6, 7, 8, 9, 10, 11, 12, 13, 14, 15, 16, 17, 18, 19, 20, 21, 22, 23, 24, 25, 26, 27, 0, 28, 29, 30, 31, 32, 33, 34, 35, 36, 37, 38, 39, 40, 41] rfl rfl)) (show ww x (W_L_law (xg x) a0 a1 a2 a3 a4 a5 a6 a7 a8 a9 a10 a11 a12 a13 a14 a15 a16 a17 a18 a19 a20 a21 a22 a23 a24 a25 a26 a27 a28 a29 a30 a31 a32 a33 a34 a35 a36 a37 a38 a39 ab v0 v1 w148 w149 w150 v5 v6 v7 v8 v9 v10 v11 v12 v13 v14 v15 v16 v17 v18 w155 v20 v21 v22 w156 v24 v25 v26 v27 v28 v29 v30 v31 v32 v33 v34 v35 v36 v37 v38 w157 w158 v41 v42 v43 w151 v46 v47 ++ ZP (xg x) a39 v45) [(6, .int r154), (5, .int r147), (0, .ref ab), (1, .ref a0), (2, .ref a27), (3, .ref a38), (4, .int z4)] (k0 + 1) (n0 + 6) 796 [.int r159] from ?_)
    refine xw_iload hf (pc := 796) dL_law_796 1 rfl ?_
    refine xw_icmp_eq hf (pc := 798) dL_law_798 (tgt := 803) rfl ⟨fun c => ?_, fun c => ?_⟩
    · have h := h.1 c
      refine xw_iload hf (pc := 803) dL_law_803 1 rfl ?_
      refine xw_if_ne hf (pc := 805) dL_law_805 (c := r147 = 0) Iff.rfl (tgt := 820) rfl ⟨fun c => ?_, fun c => ?_⟩
      · have h := h.1 c
        refine xw_aload_n hf (pc := 808) dL_law_808 rfl 5 rfl ?_
        refine xw_iconst hf (pc := 809) dL_law_809 (v := 0) (by decide) ?_
        refine xw_lald hf (pc := 810) dL_law_810 41 rfl h.1 ?_
        have h := h.2
        refine xw_iload hf (pc := 811) dL_law_811 0 rfl ?_
        refine xw_i2l hf (pc := 813) dL_law_813 ?_
        refine xw_lcmp hf (pc := 814) dL_law_814 ?_
        refine xw_if_eq hf (pc := 815) dL_law_815 (c := (w151 (0 : Int32).toNatClampNeg) = r154.toInt64) (lc_eq _ _) (tgt := 820) rfl ⟨fun c => ?_, fun c => ?_⟩
        · have h := h.1 c
          refine xw_goto hf (pc := 820) dL_law_820 (tgt := 2681) rfl ?_
          refine xw_L [2, 3, 4, 5, 6] rfl ?_
          exact hK2681 _ _ _ _ hk _ _ _ _ _ _ _ _ h
        · have h := h.2 c
          refine xw_iconst hf (pc := 818) dL_law_818 (v := 0) (by decide) ?_
          exact h.elim
      · have h := h.2 c
        refine xw_goto hf (pc := 820) dL_law_820 (tgt := 2681) rfl ?_
        refine xw_L [2, 3, 4, 5, 6] rfl ?_
        exact hK2681 _ _ _ _ hk _ _ _ _ _ _ _ _ h
    · have h := h.2 c
      refine xw_iconst hf (pc := 801) dL_law_801 (v := 0) (by decide) ?_
      exact h.elim
set_option maxHeartbeats 4000000 in
set_option maxRecDepth 100000 in
theorem w_L_law_L823 {x : Cx} {mc ms : Nat} (hf : fx x (rm_L_law) RL cL_law wsL_law) (hn : xn x = 8) {k0 n0 rc rs : Nat} (hk : k0 + rc ≤ (rm_L_law).cells ∧ n0 + rs ≤ (rm_L_law).slots) (a0 a1 a2 a3 a4 a5 a6 a7 a8 a9 a10 a11 a12 a13 a14 a15 a16 a17 a18 a19 a20 a21 a22 a23 a24 a25 a26 a27 a28 a29 a30 a31 a32 a33 a34 a35 a36 a37 a38 a39 ab : Nat) (z4 : Int32) (v0 : Int32) (v1 : Nat → Int64) (v20 : Int32) (v21 : Int32) (v22 : Int32) (v24 : Int32) (v25 : Nat → Int64) (v46 : Nat) (v47 : Nat → Int32) (v5 : Nat → Int32) (v6 : Nat → Int32) (v7 : Nat → Int32) (v8 : Int32) (v9 : Nat → Int32) (v10 : Nat → Int32) (v11 : Int32) (v12 : Int32) (v13 : Nat → Int32) (v14 : Int32) (v15 : Nat → Int64) (v16 : Int32) (v17 : Nat → Int64) (v18 : Nat → Int32) (v26 : Nat → Int32) (v27 : Nat → Int32) (v28 : Nat → Int32) (v29 : Nat → Int32) (v30 : Nat) (v31 : Nat) (v32 : Nat → Int64) (v33 : Nat) (v34 : Nat) (v35 : Nat → Int32) (v36 : Nat) (v37 : Nat) (v38 : Nat → Int32) (v41 : Nat → Int32) (v42 : Nat → Int32) (v43 : Nat → Int32) (v45 : ZL) {K2681 : Nat → Nat → Int32 → (Nat → Int64) → (Nat → Int32) → Int32 → Int32 → (Nat → Int32) → (Nat → Int32) → (Nat → Int64) → Prop} (hst : (xl x).stackTraces = false) (hX : sX x ab v46 v47)
    (n : Nat) (v2 : Int32) (v3 : Nat → Int64) (v4 : Nat → Int32) (v19 : Int32) (v23 : Int32) (v39 : Nat → Int32) (v40 : Nat → Int32) (v44 : Nat → Int64) (h : P_L_law_L823 z4 v0 v1 v20 v21 v22 v24 v25 v46 v47 K2681 n rc rs v2 v3 v4 v19 v23 v39 v40 v44)
    (hK2681 : ∀ (k0 n0 rc rs : Nat), k0 + rc ≤ (rm_L_law).cells ∧ n0 + rs ≤ (rm_L_law).slots → ∀ (uv2 : Int32), ∀ (uv3 : Nat → Int64), ∀ (uv4 : Nat → Int32), ∀ (uv19 : Int32), ∀ (uv23 : Int32), ∀ (uv39 : Nat → Int32), ∀ (uv40 : Nat → Int32), ∀ (uv44 : Nat → Int64), K2681 rc rs uv2 uv3 uv4 uv19 uv23 uv39 uv40 uv44 → ww x (W_L_law (xg x) a0 a1 a2 a3 a4 a5 a6 a7 a8 a9 a10 a11 a12 a13 a14 a15 a16 a17 a18 a19 a20 a21 a22 a23 a24 a25 a26 a27 a28 a29 a30 a31 a32 a33 a34 a35 a36 a37 a38 a39 ab v0 v1 uv2 uv3 uv4 v5 v6 v7 v8 v9 v10 v11 v12 v13 v14 v15 v16 v17 v18 uv19 v20 v21 v22 uv23 v24 v25 v26 v27 v28 v29 v30 v31 v32 v33 v34 v35 v36 v37 v38 uv39 uv40 v41 v42 v43 uv44 v46 v47 ++ ZP (xg x) a39 v45) [(0, .ref ab), (1, .ref a0), (2, .ref a27), (3, .ref a38), (4, .int z4)] k0 n0 2681 []) :
    ww x (W_L_law (xg x) a0 a1 a2 a3 a4 a5 a6 a7 a8 a9 a10 a11 a12 a13 a14 a15 a16 a17 a18 a19 a20 a21 a22 a23 a24 a25 a26 a27 a28 a29 a30 a31 a32 a33 a34 a35 a36 a37 a38 a39 ab v0 v1 v2 v3 v4 v5 v6 v7 v8 v9 v10 v11 v12 v13 v14 v15 v16 v17 v18 v19 v20 v21 v22 v23 v24 v25 v26 v27 v28 v29 v30 v31 v32 v33 v34 v35 v36 v37 v38 v39 v40 v41 v42 v43 v44 v46 v47 ++ ZP (xg x) a39 v45) [(0, .ref ab), (1, .ref a0), (2, .ref a27), (3, .ref a38), (4, .int z4)] k0 n0 823 [] := by
  induction n generalizing k0 n0 rc rs v2 v3 v4 v19 v23 v39 v40 v44 with
  | zero => exact h.elim
  | succ n ih =>
    unfold P_L_law_L823 at h
    refine xw_aload_n hf (pc := 823) dL_law_823 rfl 1 rfl ?_
    refine xw_aload_n hf (pc := 824) dL_law_824 rfl 0 rfl ?_
    refine xw_iload hf (pc := 825) dL_law_825 4 rfl ?_
    refine xw_iconst hf (pc := 827) dL_law_827 (v := 1) (by decide) ?_
    refine xw_iadd hf (pc := 828) dL_law_828 ?_
    refine xw_sald hf hX dL_law_829 h.1 ?_
    have h := h.2
    refine xw_i2l hf (pc := 830) dL_law_830 ?_
    refine xw_bipush hf (pc := 831) dL_law_831 (v := 32) (by decide) ?_
    refine xw_lshl hf (pc := 833) dL_law_833 ?_
    refine xw_aload_n hf (pc := 834) dL_law_834 rfl 0 rfl ?_
    refine xw_iload hf (pc := 835) dL_law_835 4 rfl ?_
    refine xw_iconst hf (pc := 837) dL_law_837 (v := 2) (by decide) ?_
    refine xw_iadd hf (pc := 838) dL_law_838 ?_
    refine xw_sald hf hX dL_law_839 h.1 ?_
    have h := h.2
    refine xw_i2l hf (pc := 840) dL_law_840 ?_
    refine xw_ldc2 hf (pc := 841) dL_law_841 mw_L_law_0 ?_
    refine xw_land hf (pc := 844) dL_law_844 ?_
    refine xw_lor hf (pc := 845) dL_law_845 ?_
    refine xw_aload_n hf (pc := 846) dL_law_846 rfl 0 rfl ?_
    refine xw_iload hf (pc := 847) dL_law_847 4 rfl ?_
    refine xw_iconst hf (pc := 849) dL_law_849 (v := 3) (by decide) ?_
    refine xw_iadd hf (pc := 850) dL_law_850 ?_
    refine xw_sald hf hX dL_law_851 h.1 ?_
    have h := h.2
    refine xw_aload_n hf (pc := 852) dL_law_852 rfl 3 rfl ?_
    obtain ⟨mc177, ms178, ⟨hb1, hb2⟩, h⟩ := h
    refine xw_callSW hf (pc := 853) (nA := 4) (Xr := [(a8, .inr (6, [.ref a9, .ref a11, .ref a12])), (a9, .inr (3, [.ref a10])), (a10, .inl (gI (xg x), 32, .inl v5)), (a11, .inl (gI (xg x), 32, .inl v6)), (a12, .inl (gI (xg x), 32, .inl v7)), (a13, .inr (1, [.ref a39, .ref a14, .ref a16, .int v8])), (a14, .inr (3, [.ref a15])), (a15, .inl (gI (xg x), 32, .inl v9)), (a16, .inr (3, [.ref a17])), (a17, .inl (gI (xg x), 32, .inl v10)), (a18, .inr (4, [.ref a19, .ref a21, .ref a23, .int v11, .int v12])), (a19, .inr (3, [.ref a20])), (a20, .inl (gI (xg x), 32, .inl v13)), (a21, .inr (7, [.ref a22, .int v14])), (a22, .inl (gJ (xg x), 60, .inr (.inl v15))), (a23, .inr (7, [.ref a24, .int v16])), (a24, .inl (gJ (xg x), 60, .inr (.inl v17))), (a25, .inr (3, [.ref a26])), (a26, .inl (gI (xg x), 32, .inl v18)), (a27, .inr (9, [.int v19, .ref a28, .int v20, .ref a29, .ref a30, .ref a31, .ref a32, .ref v30, .ref v33, .ref v36, .int v21, .int v22, .ref a33, .int v23, .ref a34, .ref a35, .ref a36, .ref a37, .int v24])), (a28, .inl (gJ (xg x), 60, .inr (.inl v25))), (a29, .inl (gI (xg x), 27, .inl v26)), (a30, .inl (gI (xg x), 27, .inl v27)), (a31, .inl (gI (xg x), 27, .inl v28)), (a32, .inl (gI (xg x), 27, .inl v29)), (v30, .inl (gJ (xg x), v31, .inr (.inl v32))), (v33, .inl (gI (xg x), v34, .inl v35)), (v36, .inl (gZ (xg x), v37, .inl v38)), (a33, .inl (gI (xg x), 12, .inl v39)), (a34, .inl (gI (xg x), 27, .inl v40)), (a35, .inl (gI (xg x), 27, .inl v41)), (a36, .inl (gI (xg x), 60, .inl v42)), (a37, .inl (gI (xg x), 3, .inl v43))] ++ ZP (xg x) a39 v45) (rest := []) (c_L_fittingWord (xl x) (xg x) hst a0 a1 a2 a3 a4 a5 a6 a7 a38 a8 a13 a18 a25 v0 v1 v2 v3 v4 v44 ((((v47 (z4 + 1).toNatClampNeg).toInt64) <<< ((32 : Int32).toInt64 &&& 63)) ||| (((v47 (z4 + 2).toNatClampNeg).toInt64) &&& 4294967295)) (v47 (z4 + 3).toNatClampNeg) h) gL_law_L_fittingWord (by rfl) rfl (by decide +kernel) ⟨⟨(Nat.le_of_ble_eq_true rfl), (Nat.le_of_ble_eq_true rfl)⟩, (Nat.le_trans (show k0 + 2 ≤ k0 + rc by omega) hk.1), (Nat.le_trans (show n0 + 12 ≤ n0 + rs by omega) hk.2)⟩ (Nat.le_of_ble_eq_true rfl) (sb_zr (sb_of [0, 1, 2, 3, 4, 5, 6, 7, 41, 8, 9, 10, 11, 12, 13, 14, 15, 16, 17, 18, 19, 20, 21, 22, 23, 24, 25, 26, 27, 28, 29, 30, 31, 32, 33, 34, 35, 36, 37, 38, 39, 40] rfl rfl)) rfl dL_law_853 (fun v X1 hp => ?_)
    obtain ⟨r172, w173, w174, w175, w176, rfl, rfl, h⟩ := hp
    have hk : k0 + 2 + mc177 ≤ (rm_L_law).cells ∧ n0 + 12 + ms178 ≤ (rm_L_law).slots := ⟨Nat.le_trans (show k0 + 2 + mc177 ≤ k0 + rc by omega) hk.1, Nat.le_trans (show n0 + 12 + ms178 ≤ n0 + rs by omega) hk.2⟩
    refine xw_X (sb_rz (sb_of [0, 1, 2, 3, 4, 5, 6, 7, 9, 10, 11, 12, 13, 14, 15, 16, 17, 18, 19, 20, 21, 22, 23, 24, 25, 26, 27, 28, 29, 30, 31, 32, 33, 34, 35, 36, 37, 38, 39, 40, 41, 8] rfl rfl)) (show ww x (W_L_law (xg x) a0 a1 a2 a3 a4 a5 a6 a7 a8 a9 a10 a11 a12 a13 a14 a15 a16 a17 a18 a19 a20 a21 a22 a23 a24 a25 a26 a27 a28 a29 a30 a31 a32 a33 a34 a35 a36 a37 a38 a39 ab v0 v1 w173 w174 w175 v5 v6 v7 v8 v9 v10 v11 v12 v13 v14 v15 v16 v17 v18 v19 v20 v21 v22 v23 v24 v25 v26 v27 v28 v29 v30 v31 v32 v33 v34 v35 v36 v37 v38 v39 v40 v41 v42 v43 w176 v46 v47 ++ ZP (xg x) a39 v45) [(0, .ref ab), (1, .ref a0), (2, .ref a27), (3, .ref a38), (4, .int z4)] (k0 + 2) (n0 + 12) 856 [.int r172] from ?_)
    refine xw_istore hf (pc := 856) dL_law_856 [(5, .int r172), (0, .ref ab), (1, .ref a0), (2, .ref a27), (3, .ref a38), (4, .int z4)] hn (by decide) rfl ?_
    refine xw_aload_n hf (pc := 858) dL_law_858 rfl 3 rfl ?_
    refine xw_aload_n hf (pc := 859) dL_law_859 rfl 1 rfl ?_
    refine xw_iload hf (pc := 860) dL_law_860 5 rfl ?_
    refine xw_iconst hf (pc := 862) dL_law_862 (v := 1) (by decide) ?_
    refine xw_iadd hf (pc := 863) dL_law_863 ?_
    refine xw_sald hf hX dL_law_864 h.1 ?_
    have h := h.2
    refine xw_i2l hf (pc := 865) dL_law_865 ?_
    refine xw_bipush hf (pc := 866) dL_law_866 (v := 32) (by decide) ?_
    refine xw_lshl hf (pc := 868) dL_law_868 ?_
    refine xw_aload_n hf (pc := 869) dL_law_869 rfl 1 rfl ?_
    refine xw_iload hf (pc := 870) dL_law_870 5 rfl ?_
    refine xw_iconst hf (pc := 872) dL_law_872 (v := 2) (by decide) ?_
    refine xw_iadd hf (pc := 873) dL_law_873 ?_
    refine xw_sald hf hX dL_law_874 h.1 ?_
    have h := h.2
    refine xw_i2l hf (pc := 875) dL_law_875 ?_
    refine xw_ldc2 hf (pc := 876) dL_law_876 mw_L_law_0 ?_
    refine xw_land hf (pc := 879) dL_law_879 ?_
    refine xw_lor hf (pc := 880) dL_law_880 ?_
    refine xw_aload_n hf (pc := 881) dL_law_881 rfl 1 rfl ?_
    refine xw_iload hf (pc := 882) dL_law_882 5 rfl ?_
    refine xw_iconst hf (pc := 884) dL_law_884 (v := 3) (by decide) ?_
    refine xw_iadd hf (pc := 885) dL_law_885 ?_
    refine xw_sald hf hX dL_law_886 h.1 ?_
    have h := h.2
    refine xw_callV hf (pc := 887) (nA := 2) (Xr := [(a0, .inr (8, [.ref a1, .ref a8, .ref a13, .ref a18, .ref a25])), (a1, .inr (2, [.ref a2, .ref a4, .ref a6])), (a2, .inr (7, [.ref a3, .int v0])), (a3, .inl (gJ (xg x), 60, .inr (.inl v1))), (a4, .inr (7, [.ref a5, .int w173])), (a5, .inl (gJ (xg x), 60, .inr (.inl w174))), (a6, .inr (3, [.ref a7])), (a7, .inl (gI (xg x), 32, .inl w175)), (a8, .inr (6, [.ref a9, .ref a11, .ref a12])), (a9, .inr (3, [.ref a10])), (a10, .inl (gI (xg x), 32, .inl v5)), (a11, .inl (gI (xg x), 32, .inl v6)), (a12, .inl (gI (xg x), 32, .inl v7)), (a13, .inr (1, [.ref a39, .ref a14, .ref a16, .int v8])), (a14, .inr (3, [.ref a15])), (a15, .inl (gI (xg x), 32, .inl v9)), (a16, .inr (3, [.ref a17])), (a17, .inl (gI (xg x), 32, .inl v10)), (a18, .inr (4, [.ref a19, .ref a21, .ref a23, .int v11, .int v12])), (a19, .inr (3, [.ref a20])), (a20, .inl (gI (xg x), 32, .inl v13)), (a21, .inr (7, [.ref a22, .int v14])), (a22, .inl (gJ (xg x), 60, .inr (.inl v15))), (a23, .inr (7, [.ref a24, .int v16])), (a24, .inl (gJ (xg x), 60, .inr (.inl v17))), (a25, .inr (3, [.ref a26])), (a26, .inl (gI (xg x), 32, .inl v18)), (a29, .inl (gI (xg x), 27, .inl v26)), (a30, .inl (gI (xg x), 27, .inl v27)), (a31, .inl (gI (xg x), 27, .inl v28)), (a32, .inl (gI (xg x), 27, .inl v29)), (v30, .inl (gJ (xg x), v31, .inr (.inl v32))), (v33, .inl (gI (xg x), v34, .inl v35)), (v36, .inl (gZ (xg x), v37, .inl v38)), (a35, .inl (gI (xg x), 27, .inl v41)), (a36, .inl (gI (xg x), 60, .inl v42)), (a37, .inl (gI (xg x), 3, .inl v43)), (a38, .inl (gJ (xg x), 1, .inr (.inl w176)))] ++ ZP (xg x) a39 v45) (rest := []) (T := TX9) (c_X9_fittingWord (xl x) (xg x) a27 a28 a33 a34 a29 a30 a31 a32 v30 v33 v36 a35 a36 a37 v19 v20 v21 v22 v23 v24 v25 v39 v40 ((((v47 (z4 + 1).toNatClampNeg).toInt64) <<< ((32 : Int32).toInt64 &&& 63)) ||| (((v47 (z4 + 2).toNatClampNeg).toInt64) &&& 4294967295)) (v47 (z4 + 3).toNatClampNeg) h) gL_law_X9_fittingWord (by rfl) rfl rfl (by decide +kernel) ⟨⟨(Nat.le_of_ble_eq_true rfl), (Nat.le_of_ble_eq_true rfl)⟩, (Nat.le_trans (Nat.le_add_right _ _) hk.1), (Nat.le_trans (Nat.le_add_right _ _) hk.2)⟩ (Nat.le_of_ble_eq_true rfl) rfl rfl (sb_zr (sb_of [27, 28, 36, 37, 0, 1, 2, 3, 4, 5, 6, 7, 8, 9, 10, 11, 12, 13, 14, 15, 16, 17, 18, 19, 20, 21, 22, 23, 24, 25, 26, 29, 30, 31, 32, 33, 34, 35, 38, 39, 40, 41] rfl rfl)) rfl dL_law_887 (fun v X1 hp => ?_)
    obtain ⟨r179, w180, w181, w182, w183, rfl, rfl, h⟩ := hp
    refine xw_X (sb_rz (sb_of [4, 5, 6, 7, 8, 9, 10, 11, 12, 13, 14, 15, 16, 17, 18, 19, 20, 21, 22, 23, 24, 25, 26, 27, 28, 29, 30, 0, 1, 31, 32, 33, 34, 35, 36, 37, 2, 3, 38, 39, 40, 41] rfl rfl)) (show ww x (W_L_law (xg x) a0 a1 a2 a3 a4 a5 a6 a7 a8 a9 a10 a11 a12 a13 a14 a15 a16 a17 a18 a19 a20 a21 a22 a23 a24 a25 a26 a27 a28 a29 a30 a31 a32 a33 a34 a35 a36 a37 a38 a39 ab v0 v1 w173 w174 w175 v5 v6 v7 v8 v9 v10 v11 v12 v13 v14 v15 v16 v17 v18 w180 v20 v21 v22 w181 v24 v25 v26 v27 v28 v29 v30 v31 v32 v33 v34 v35 v36 v37 v38 w182 w183 v41 v42 v43 w176 v46 v47 ++ ZP (xg x) a39 v45) [(5, .int r172), (0, .ref ab), (1, .ref a0), (2, .ref a27), (3, .ref a38), (4, .int z4)] (k0 + 2) (n0 + 12) 890 [.long r179] from ?_)
    refine xw_lstore hf (pc := 890) dL_law_890 [(6, .long r179), (5, .int r172), (0, .ref ab), (1, .ref a0), (2, .ref a27), (3, .ref a38), (4, .int z4)] hn (by decide) rfl ?_
    refine xw_aload_n hf (pc := 892) dL_law_892 rfl 4 rfl ?_
    refine xw_callV hf (pc := 893) (nA := 0) (Xr := [(a0, .inr (8, [.ref a1, .ref a8, .ref a13, .ref a18, .ref a25])), (a1, .inr (2, [.ref a2, .ref a4, .ref a6])), (a2, .inr (7, [.ref a3, .int v0])), (a3, .inl (gJ (xg x), 60, .inr (.inl v1))), (a4, .inr (7, [.ref a5, .int w173])), (a5, .inl (gJ (xg x), 60, .inr (.inl w174))), (a6, .inr (3, [.ref a7])), (a7, .inl (gI (xg x), 32, .inl w175)), (a8, .inr (6, [.ref a9, .ref a11, .ref a12])), (a9, .inr (3, [.ref a10])), (a10, .inl (gI (xg x), 32, .inl v5)), (a11, .inl (gI (xg x), 32, .inl v6)), (a12, .inl (gI (xg x), 32, .inl v7)), (a13, .inr (1, [.ref a39, .ref a14, .ref a16, .int v8])), (a14, .inr (3, [.ref a15])), (a15, .inl (gI (xg x), 32, .inl v9)), (a16, .inr (3, [.ref a17])), (a17, .inl (gI (xg x), 32, .inl v10)), (a18, .inr (4, [.ref a19, .ref a21, .ref a23, .int v11, .int v12])), (a19, .inr (3, [.ref a20])), (a20, .inl (gI (xg x), 32, .inl v13)), (a21, .inr (7, [.ref a22, .int v14])), (a22, .inl (gJ (xg x), 60, .inr (.inl v15))), (a23, .inr (7, [.ref a24, .int v16])), (a24, .inl (gJ (xg x), 60, .inr (.inl v17))), (a25, .inr (3, [.ref a26])), (a26, .inl (gI (xg x), 32, .inl v18)), (a28, .inl (gJ (xg x), 60, .inr (.inl v25))), (a29, .inl (gI (xg x), 27, .inl v26)), (a30, .inl (gI (xg x), 27, .inl v27)), (a31, .inl (gI (xg x), 27, .inl v28)), (a32, .inl (gI (xg x), 27, .inl v29)), (v30, .inl (gJ (xg x), v31, .inr (.inl v32))), (v33, .inl (gI (xg x), v34, .inl v35)), (v36, .inl (gZ (xg x), v37, .inl v38)), (a33, .inl (gI (xg x), 12, .inl w182)), (a34, .inl (gI (xg x), 27, .inl w183)), (a35, .inl (gI (xg x), 27, .inl v41)), (a36, .inl (gI (xg x), 60, .inl v42)), (a37, .inl (gI (xg x), 3, .inl v43)), (a38, .inl (gJ (xg x), 1, .inr (.inl w176)))] ++ ZP (xg x) a39 v45) (rest := []) (T := TX9) (c_X9_thrown (xl x) (xg x) a27 a28 a29 a30 a31 a32 v30 v33 v36 a33 a34 a35 a36 a37 w180 v20 v21 v22 w181 v24 h) gL_law_X9_thrown (by rfl) rfl rfl (by decide +kernel) ⟨⟨(Nat.le_of_ble_eq_true rfl), (Nat.le_of_ble_eq_true rfl)⟩, (Nat.le_trans (Nat.le_add_right _ _) hk.1), (Nat.le_trans (Nat.le_add_right _ _) hk.2)⟩ (Nat.le_of_ble_eq_true rfl) rfl rfl (sb_zr (sb_of [27, 0, 1, 2, 3, 4, 5, 6, 7, 8, 9, 10, 11, 12, 13, 14, 15, 16, 17, 18, 19, 20, 21, 22, 23, 24, 25, 26, 28, 29, 30, 31, 32, 33, 34, 35, 36, 37, 38, 39, 40, 41] rfl rfl)) rfl dL_law_893 (fun v X1 hp => ?_)
    obtain ⟨r184, rfl, rfl, h⟩ := hp
    refine xw_X (sb_rz (sb_of [1, 2, 3, 4, 5, 6, 7, 8, 9, 10, 11, 12, 13, 14, 15, 16, 17, 18, 19, 20, 21, 22, 23, 24, 25, 26, 27, 0, 28, 29, 30, 31, 32, 33, 34, 35, 36, 37, 38, 39, 40, 41] rfl rfl)) (show ww x (W_L_law (xg x) a0 a1 a2 a3 a4 a5 a6 a7 a8 a9 a10 a11 a12 a13 a14 a15 a16 a17 a18 a19 a20 a21 a22 a23 a24 a25 a26 a27 a28 a29 a30 a31 a32 a33 a34 a35 a36 a37 a38 a39 ab v0 v1 w173 w174 w175 v5 v6 v7 v8 v9 v10 v11 v12 v13 v14 v15 v16 v17 v18 w180 v20 v21 v22 w181 v24 v25 v26 v27 v28 v29 v30 v31 v32 v33 v34 v35 v36 v37 v38 w182 w183 v41 v42 v43 w176 v46 v47 ++ ZP (xg x) a39 v45) [(6, .long r179), (5, .int r172), (0, .ref ab), (1, .ref a0), (2, .ref a27), (3, .ref a38), (4, .int z4)] (k0 + 2) (n0 + 12) 896 [.int r184] from ?_)
    refine xw_iload hf (pc := 896) dL_law_896 1 rfl ?_
    refine xw_icmp_eq hf (pc := 898) dL_law_898 (tgt := 903) rfl ⟨fun c => ?_, fun c => ?_⟩
    · have h := h.1 c
      refine xw_iload hf (pc := 903) dL_law_903 1 rfl ?_
      refine xw_if_ne hf (pc := 905) dL_law_905 (c := r172 = 0) Iff.rfl (tgt := 919) rfl ⟨fun c => ?_, fun c => ?_⟩
      · have h := h.1 c
        refine xw_aload_n hf (pc := 908) dL_law_908 rfl 5 rfl ?_
        refine xw_iconst hf (pc := 909) dL_law_909 (v := 0) (by decide) ?_
        refine xw_lald hf (pc := 910) dL_law_910 41 rfl h.1 ?_
        have h := h.2
        refine xw_lload hf (pc := 911) dL_law_911 0 rfl ?_
        refine xw_lcmp hf (pc := 913) dL_law_913 ?_
        refine xw_if_eq hf (pc := 914) dL_law_914 (c := (w176 (0 : Int32).toNatClampNeg) = r179) (lc_eq _ _) (tgt := 919) rfl ⟨fun c => ?_, fun c => ?_⟩
        · have h := h.1 c
          refine xw_goto hf (pc := 919) dL_law_919 (tgt := 2681) rfl ?_
          refine xw_L [2, 3, 4, 5, 6] rfl ?_
          exact hK2681 _ _ _ _ hk _ _ _ _ _ _ _ _ h
        · have h := h.2 c
          refine xw_iconst hf (pc := 917) dL_law_917 (v := 0) (by decide) ?_
          exact h.elim
      · have h := h.2 c
        refine xw_goto hf (pc := 919) dL_law_919 (tgt := 2681) rfl ?_
        refine xw_L [2, 3, 4, 5, 6] rfl ?_
        exact hK2681 _ _ _ _ hk _ _ _ _ _ _ _ _ h
    · have h := h.2 c
      refine xw_iconst hf (pc := 901) dL_law_901 (v := 0) (by decide) ?_
      exact h.elim
set_option maxHeartbeats 4000000 in
set_option maxRecDepth 100000 in
theorem w_L_law_L922 {x : Cx} {mc ms : Nat} (hf : fx x (rm_L_law) RL cL_law wsL_law) (hn : xn x = 8) {k0 n0 rc rs : Nat} (hk : k0 + rc ≤ (rm_L_law).cells ∧ n0 + rs ≤ (rm_L_law).slots) (a0 a1 a2 a3 a4 a5 a6 a7 a8 a9 a10 a11 a12 a13 a14 a15 a16 a17 a18 a19 a20 a21 a22 a23 a24 a25 a26 a27 a28 a29 a30 a31 a32 a33 a34 a35 a36 a37 a38 a39 ab : Nat) (z4 : Int32) (v8 : Int32) (v20 : Int32) (v21 : Int32) (v22 : Int32) (v24 : Int32) (v46 : Nat) (v47 : Nat → Int32) (v0 : Int32) (v1 : Nat → Int64) (v2 : Int32) (v3 : Nat → Int64) (v4 : Nat → Int32) (v6 : Nat → Int32) (v7 : Nat → Int32) (v10 : Nat → Int32) (v11 : Int32) (v12 : Int32) (v13 : Nat → Int32) (v14 : Int32) (v15 : Nat → Int64) (v16 : Int32) (v17 : Nat → Int64) (v25 : Nat → Int64) (v27 : Nat → Int32) (v29 : Nat → Int32) (v30 : Nat) (v31 : Nat) (v32 : Nat → Int64) (v33 : Nat) (v34 : Nat) (v35 : Nat → Int32) (v36 : Nat) (v37 : Nat) (v38 : Nat → Int32) (v41 : Nat → Int32) (v42 : Nat → Int32) (v43 : Nat → Int32) (v45 : ZL) {K2681 : Nat → Nat → (Nat → Int32) → (Nat → Int32) → (Nat → Int32) → Int32 → Int32 → (Nat → Int32) → (Nat → Int32) → (Nat → Int32) → (Nat → Int32) → (Nat → Int64) → Prop} (hst : (xl x).stackTraces = false) (hX : sX x ab v46 v47)
    (n : Nat) (v5 : Nat → Int32) (v9 : Nat → Int32) (v18 : Nat → Int32) (v19 : Int32) (v23 : Int32) (v26 : Nat → Int32) (v28 : Nat → Int32) (v39 : Nat → Int32) (v40 : Nat → Int32) (v44 : Nat → Int64) (h : P_L_law_L922 z4 v8 v20 v21 v22 v24 v46 v47 K2681 n rc rs v5 v9 v18 v19 v23 v26 v28 v39 v40 v44)
    (hK2681 : ∀ (k0 n0 rc rs : Nat), k0 + rc ≤ (rm_L_law).cells ∧ n0 + rs ≤ (rm_L_law).slots → ∀ (uv5 : Nat → Int32), ∀ (uv9 : Nat → Int32), ∀ (uv18 : Nat → Int32), ∀ (uv19 : Int32), ∀ (uv23 : Int32), ∀ (uv26 : Nat → Int32), ∀ (uv28 : Nat → Int32), ∀ (uv39 : Nat → Int32), ∀ (uv40 : Nat → Int32), ∀ (uv44 : Nat → Int64), K2681 rc rs uv5 uv9 uv18 uv19 uv23 uv26 uv28 uv39 uv40 uv44 → ww x (W_L_law (xg x) a0 a1 a2 a3 a4 a5 a6 a7 a8 a9 a10 a11 a12 a13 a14 a15 a16 a17 a18 a19 a20 a21 a22 a23 a24 a25 a26 a27 a28 a29 a30 a31 a32 a33 a34 a35 a36 a37 a38 a39 ab v0 v1 v2 v3 v4 uv5 v6 v7 v8 uv9 v10 v11 v12 v13 v14 v15 v16 v17 uv18 uv19 v20 v21 v22 uv23 v24 v25 uv26 v27 uv28 v29 v30 v31 v32 v33 v34 v35 v36 v37 v38 uv39 uv40 v41 v42 v43 uv44 v46 v47 ++ ZP (xg x) a39 v45) [(0, .ref ab), (1, .ref a0), (2, .ref a27), (3, .ref a38), (4, .int z4)] k0 n0 2681 []) :
    ww x (W_L_law (xg x) a0 a1 a2 a3 a4 a5 a6 a7 a8 a9 a10 a11 a12 a13 a14 a15 a16 a17 a18 a19 a20 a21 a22 a23 a24 a25 a26 a27 a28 a29 a30 a31 a32 a33 a34 a35 a36 a37 a38 a39 ab v0 v1 v2 v3 v4 v5 v6 v7 v8 v9 v10 v11 v12 v13 v14 v15 v16 v17 v18 v19 v20 v21 v22 v23 v24 v25 v26 v27 v28 v29 v30 v31 v32 v33 v34 v35 v36 v37 v38 v39 v40 v41 v42 v43 v44 v46 v47 ++ ZP (xg x) a39 v45) [(0, .ref ab), (1, .ref a0), (2, .ref a27), (3, .ref a38), (4, .int z4)] k0 n0 922 [] := by
  induction n generalizing k0 n0 rc rs v5 v9 v18 v19 v23 v26 v28 v39 v40 v44 with
  | zero => exact h.elim
  | succ n ih =>
    unfold P_L_law_L922 at h
    refine xw_aload_n hf (pc := 922) dL_law_922 rfl 1 rfl ?_
    refine xw_aload_n hf (pc := 923) dL_law_923 rfl 0 rfl ?_
    refine xw_iload hf (pc := 924) dL_law_924 4 rfl ?_
    refine xw_iconst hf (pc := 926) dL_law_926 (v := 1) (by decide) ?_
    refine xw_iadd hf (pc := 927) dL_law_927 ?_
    refine xw_sald hf hX dL_law_928 h.1 ?_
    have h := h.2
    refine xw_i2l hf (pc := 929) dL_law_929 ?_
    refine xw_bipush hf (pc := 930) dL_law_930 (v := 32) (by decide) ?_
    refine xw_lshl hf (pc := 932) dL_law_932 ?_
    refine xw_aload_n hf (pc := 933) dL_law_933 rfl 0 rfl ?_
    refine xw_iload hf (pc := 934) dL_law_934 4 rfl ?_
    refine xw_iconst hf (pc := 936) dL_law_936 (v := 2) (by decide) ?_
    refine xw_iadd hf (pc := 937) dL_law_937 ?_
    refine xw_sald hf hX dL_law_938 h.1 ?_
    have h := h.2
    refine xw_i2l hf (pc := 939) dL_law_939 ?_
    refine xw_ldc2 hf (pc := 940) dL_law_940 mw_L_law_0 ?_
    refine xw_land hf (pc := 943) dL_law_943 ?_
    refine xw_lor hf (pc := 944) dL_law_944 ?_
    refine xw_aload_n hf (pc := 945) dL_law_945 rfl 0 rfl ?_
    refine xw_iload hf (pc := 946) dL_law_946 4 rfl ?_
    refine xw_iconst hf (pc := 948) dL_law_948 (v := 3) (by decide) ?_
    refine xw_iadd hf (pc := 949) dL_law_949 ?_
    refine xw_sald hf hX dL_law_950 h.1 ?_
    have h := h.2
    refine xw_aload_n hf (pc := 951) dL_law_951 rfl 3 rfl ?_
    obtain ⟨mc202, ms203, ⟨hb1, hb2⟩, h⟩ := h
    refine xw_callSW hf (pc := 952) (nA := 4) (Xr := [(a1, .inr (2, [.ref a2, .ref a4, .ref a6])), (a2, .inr (7, [.ref a3, .int v0])), (a3, .inl (gJ (xg x), 60, .inr (.inl v1))), (a4, .inr (7, [.ref a5, .int v2])), (a5, .inl (gJ (xg x), 60, .inr (.inl v3))), (a6, .inr (3, [.ref a7])), (a7, .inl (gI (xg x), 32, .inl v4)), (a11, .inl (gI (xg x), 32, .inl v6)), (a12, .inl (gI (xg x), 32, .inl v7)), (a16, .inr (3, [.ref a17])), (a17, .inl (gI (xg x), 32, .inl v10)), (a18, .inr (4, [.ref a19, .ref a21, .ref a23, .int v11, .int v12])), (a19, .inr (3, [.ref a20])), (a20, .inl (gI (xg x), 32, .inl v13)), (a21, .inr (7, [.ref a22, .int v14])), (a22, .inl (gJ (xg x), 60, .inr (.inl v15))), (a23, .inr (7, [.ref a24, .int v16])), (a24, .inl (gJ (xg x), 60, .inr (.inl v17))), (a27, .inr (9, [.int v19, .ref a28, .int v20, .ref a29, .ref a30, .ref a31, .ref a32, .ref v30, .ref v33, .ref v36, .int v21, .int v22, .ref a33, .int v23, .ref a34, .ref a35, .ref a36, .ref a37, .int v24])), (a28, .inl (gJ (xg x), 60, .inr (.inl v25))), (a29, .inl (gI (xg x), 27, .inl v26)), (a30, .inl (gI (xg x), 27, .inl v27)), (a31, .inl (gI (xg x), 27, .inl v28)), (a32, .inl (gI (xg x), 27, .inl v29)), (v30, .inl (gJ (xg x), v31, .inr (.inl v32))), (v33, .inl (gI (xg x), v34, .inl v35)), (v36, .inl (gZ (xg x), v37, .inl v38)), (a33, .inl (gI (xg x), 12, .inl v39)), (a34, .inl (gI (xg x), 27, .inl v40)), (a35, .inl (gI (xg x), 27, .inl v41)), (a36, .inl (gI (xg x), 60, .inl v42)), (a37, .inl (gI (xg x), 3, .inl v43))] ++ ZP (xg x) a39 v45) (rest := []) (c_L_cut (xl x) (xg x) hst a0 a8 a9 a10 a13 a14 a15 a25 a26 a38 a1 a18 a11 a12 a39 a16 v5 v8 v9 v18 v44 ((((v47 (z4 + 1).toNatClampNeg).toInt64) <<< ((32 : Int32).toInt64 &&& 63)) ||| (((v47 (z4 + 2).toNatClampNeg).toInt64) &&& 4294967295)) (v47 (z4 + 3).toNatClampNeg) h) gL_law_L_cut (by rfl) rfl (by decide +kernel) ⟨⟨(Nat.le_of_ble_eq_true rfl), (Nat.le_of_ble_eq_true rfl)⟩, (Nat.le_trans (show k0 + 3 ≤ k0 + rc by omega) hk.1), (Nat.le_trans (show n0 + 18 ≤ n0 + rs by omega) hk.2)⟩ (Nat.le_of_ble_eq_true rfl) (sb_zr (sb_of [0, 8, 9, 10, 13, 14, 15, 25, 26, 41, 1, 2, 3, 4, 5, 6, 7, 11, 12, 16, 17, 18, 19, 20, 21, 22, 23, 24, 27, 28, 29, 30, 31, 32, 33, 34, 35, 36, 37, 38, 39, 40] rfl rfl)) rfl dL_law_952 (fun v X1 hp => ?_)
    obtain ⟨r197, w198, w199, w200, w201, rfl, rfl, h⟩ := hp
    have hk : k0 + 3 + mc202 ≤ (rm_L_law).cells ∧ n0 + 18 + ms203 ≤ (rm_L_law).slots := ⟨Nat.le_trans (show k0 + 3 + mc202 ≤ k0 + rc by omega) hk.1, Nat.le_trans (show n0 + 18 + ms203 ≤ n0 + rs by omega) hk.2⟩
    refine xw_X (sb_rz (sb_of [0, 10, 11, 12, 13, 14, 15, 16, 1, 2, 3, 17, 18, 4, 5, 6, 19, 20, 21, 22, 23, 24, 25, 26, 27, 7, 8, 28, 29, 30, 31, 32, 33, 34, 35, 36, 37, 38, 39, 40, 41, 9] rfl rfl)) (show ww x (W_L_law (xg x) a0 a1 a2 a3 a4 a5 a6 a7 a8 a9 a10 a11 a12 a13 a14 a15 a16 a17 a18 a19 a20 a21 a22 a23 a24 a25 a26 a27 a28 a29 a30 a31 a32 a33 a34 a35 a36 a37 a38 a39 ab v0 v1 v2 v3 v4 w198 v6 v7 v8 w199 v10 v11 v12 v13 v14 v15 v16 v17 w200 v19 v20 v21 v22 v23 v24 v25 v26 v27 v28 v29 v30 v31 v32 v33 v34 v35 v36 v37 v38 v39 v40 v41 v42 v43 w201 v46 v47 ++ ZP (xg x) a39 v45) [(0, .ref ab), (1, .ref a0), (2, .ref a27), (3, .ref a38), (4, .int z4)] (k0 + 3) (n0 + 18) 955 [.int r197] from ?_)
    refine xw_istore hf (pc := 955) dL_law_955 [(5, .int r197), (0, .ref ab), (1, .ref a0), (2, .ref a27), (3, .ref a38), (4, .int z4)] hn (by decide) rfl ?_
    refine xw_aload_n hf (pc := 957) dL_law_957 rfl 3 rfl ?_
    refine xw_aload_n hf (pc := 958) dL_law_958 rfl 1 rfl ?_
    refine xw_iload hf (pc := 959) dL_law_959 5 rfl ?_
    refine xw_iconst hf (pc := 961) dL_law_961 (v := 1) (by decide) ?_
    refine xw_iadd hf (pc := 962) dL_law_962 ?_
    refine xw_sald hf hX dL_law_963 h.1 ?_
    have h := h.2
    refine xw_i2l hf (pc := 964) dL_law_964 ?_
    refine xw_bipush hf (pc := 965) dL_law_965 (v := 32) (by decide) ?_
    refine xw_lshl hf (pc := 967) dL_law_967 ?_
    refine xw_aload_n hf (pc := 968) dL_law_968 rfl 1 rfl ?_
    refine xw_iload hf (pc := 969) dL_law_969 5 rfl ?_
    refine xw_iconst hf (pc := 971) dL_law_971 (v := 2) (by decide) ?_
    refine xw_iadd hf (pc := 972) dL_law_972 ?_
    refine xw_sald hf hX dL_law_973 h.1 ?_
    have h := h.2
    refine xw_i2l hf (pc := 974) dL_law_974 ?_
    refine xw_ldc2 hf (pc := 975) dL_law_975 mw_L_law_0 ?_
    refine xw_land hf (pc := 978) dL_law_978 ?_
    refine xw_lor hf (pc := 979) dL_law_979 ?_
    refine xw_aload_n hf (pc := 980) dL_law_980 rfl 1 rfl ?_
    refine xw_iload hf (pc := 981) dL_law_981 5 rfl ?_
    refine xw_iconst hf (pc := 983) dL_law_983 (v := 3) (by decide) ?_
    refine xw_iadd hf (pc := 984) dL_law_984 ?_
    refine xw_sald hf hX dL_law_985 h.1 ?_
    have h := h.2
    refine xw_callV hf (pc := 986) (nA := 2) (Xr := [(a0, .inr (8, [.ref a1, .ref a8, .ref a13, .ref a18, .ref a25])), (a1, .inr (2, [.ref a2, .ref a4, .ref a6])), (a2, .inr (7, [.ref a3, .int v0])), (a3, .inl (gJ (xg x), 60, .inr (.inl v1))), (a4, .inr (7, [.ref a5, .int v2])), (a5, .inl (gJ (xg x), 60, .inr (.inl v3))), (a6, .inr (3, [.ref a7])), (a7, .inl (gI (xg x), 32, .inl v4)), (a8, .inr (6, [.ref a9, .ref a11, .ref a12])), (a9, .inr (3, [.ref a10])), (a10, .inl (gI (xg x), 32, .inl w198)), (a11, .inl (gI (xg x), 32, .inl v6)), (a12, .inl (gI (xg x), 32, .inl v7)), (a13, .inr (1, [.ref a39, .ref a14, .ref a16, .int v8])), (a14, .inr (3, [.ref a15])), (a15, .inl (gI (xg x), 32, .inl w199)), (a16, .inr (3, [.ref a17])), (a17, .inl (gI (xg x), 32, .inl v10)), (a18, .inr (4, [.ref a19, .ref a21, .ref a23, .int v11, .int v12])), (a19, .inr (3, [.ref a20])), (a20, .inl (gI (xg x), 32, .inl v13)), (a21, .inr (7, [.ref a22, .int v14])), (a22, .inl (gJ (xg x), 60, .inr (.inl v15))), (a23, .inr (7, [.ref a24, .int v16])), (a24, .inl (gJ (xg x), 60, .inr (.inl v17))), (a25, .inr (3, [.ref a26])), (a26, .inl (gI (xg x), 32, .inl w200)), (a28, .inl (gJ (xg x), 60, .inr (.inl v25))), (a30, .inl (gI (xg x), 27, .inl v27)), (a32, .inl (gI (xg x), 27, .inl v29)), (v30, .inl (gJ (xg x), v31, .inr (.inl v32))), (v33, .inl (gI (xg x), v34, .inl v35)), (v36, .inl (gZ (xg x), v37, .inl v38)), (a35, .inl (gI (xg x), 27, .inl v41)), (a36, .inl (gI (xg x), 60, .inl v42)), (a37, .inl (gI (xg x), 3, .inl v43)), (a38, .inl (gJ (xg x), 1, .inr (.inl w201)))] ++ ZP (xg x) a39 v45) (rest := []) (T := TX9) (c_X9_cut (xl x) (xg x) a27 a29 a31 a33 a34 a28 a30 a32 v30 v33 v36 a35 a36 a37 v19 v20 v21 v22 v23 v24 v26 v28 v39 v40 ((((v47 (z4 + 1).toNatClampNeg).toInt64) <<< ((32 : Int32).toInt64 &&& 63)) ||| (((v47 (z4 + 2).toNatClampNeg).toInt64) &&& 4294967295)) (v47 (z4 + 3).toNatClampNeg) h) gL_law_X9_cut (by rfl) rfl rfl (by decide +kernel) ⟨⟨(Nat.le_of_ble_eq_true rfl), (Nat.le_of_ble_eq_true rfl)⟩, (Nat.le_trans (Nat.le_add_right _ _) hk.1), (Nat.le_trans (Nat.le_add_right _ _) hk.2)⟩ (Nat.le_of_ble_eq_true rfl) rfl rfl (sb_zr (sb_of [27, 29, 31, 36, 37, 0, 1, 2, 3, 4, 5, 6, 7, 8, 9, 10, 11, 12, 13, 14, 15, 16, 17, 18, 19, 20, 21, 22, 23, 24, 25, 26, 28, 30, 32, 33, 34, 35, 38, 39, 40, 41] rfl rfl)) rfl dL_law_986 (fun v X1 hp => ?_)
    obtain ⟨r204, w205, w206, w207, w208, w209, w210, rfl, rfl, h⟩ := hp
    refine xw_X (sb_rz (sb_of [5, 6, 7, 8, 9, 10, 11, 12, 13, 14, 15, 16, 17, 18, 19, 20, 21, 22, 23, 24, 25, 26, 27, 28, 29, 30, 31, 0, 32, 1, 33, 2, 34, 35, 36, 37, 3, 4, 38, 39, 40, 41] rfl rfl)) (show ww x (W_L_law (xg x) a0 a1 a2 a3 a4 a5 a6 a7 a8 a9 a10 a11 a12 a13 a14 a15 a16 a17 a18 a19 a20 a21 a22 a23 a24 a25 a26 a27 a28 a29 a30 a31 a32 a33 a34 a35 a36 a37 a38 a39 ab v0 v1 v2 v3 v4 w198 v6 v7 v8 w199 v10 v11 v12 v13 v14 v15 v16 v17 w200 w205 v20 v21 v22 w206 v24 v25 w207 v27 w208 v29 v30 v31 v32 v33 v34 v35 v36 v37 v38 w209 w210 v41 v42 v43 w201 v46 v47 ++ ZP (xg x) a39 v45) [(5, .int r197), (0, .ref ab), (1, .ref a0), (2, .ref a27), (3, .ref a38), (4, .int z4)] (k0 + 3) (n0 + 18) 989 [.int r204] from ?_)
    refine xw_istore hf (pc := 989) dL_law_989 [(6, .int r204), (5, .int r197), (0, .ref ab), (1, .ref a0), (2, .ref a27), (3, .ref a38), (4, .int z4)] hn (by decide) rfl ?_
    refine xw_aload_n hf (pc := 991) dL_law_991 rfl 4 rfl ?_
    refine xw_callV hf (pc := 992) (nA := 0) (Xr := [(a0, .inr (8, [.ref a1, .ref a8, .ref a13, .ref a18, .ref a25])), (a1, .inr (2, [.ref a2, .ref a4, .ref a6])), (a2, .inr (7, [.ref a3, .int v0])), (a3, .inl (gJ (xg x), 60, .inr (.inl v1))), (a4, .inr (7, [.ref a5, .int v2])), (a5, .inl (gJ (xg x), 60, .inr (.inl v3))), (a6, .inr (3, [.ref a7])), (a7, .inl (gI (xg x), 32, .inl v4)), (a8, .inr (6, [.ref a9, .ref a11, .ref a12])), (a9, .inr (3, [.ref a10])), (a10, .inl (gI (xg x), 32, .inl w198)), (a11, .inl (gI (xg x), 32, .inl v6)), (a12, .inl (gI (xg x), 32, .inl v7)), (a13, .inr (1, [.ref a39, .ref a14, .ref a16, .int v8])), (a14, .inr (3, [.ref a15])), (a15, .inl (gI (xg x), 32, .inl w199)), (a16, .inr (3, [.ref a17])), (a17, .inl (gI (xg x), 32, .inl v10)), (a18, .inr (4, [.ref a19, .ref a21, .ref a23, .int v11, .int v12])), (a19, .inr (3, [.ref a20])), (a20, .inl (gI (xg x), 32, .inl v13)), (a21, .inr (7, [.ref a22, .int v14])), (a22, .inl (gJ (xg x), 60, .inr (.inl v15))), (a23, .inr (7, [.ref a24, .int v16])), (a24, .inl (gJ (xg x), 60, .inr (.inl v17))), (a25, .inr (3, [.ref a26])), (a26, .inl (gI (xg x), 32, .inl w200)), (a28, .inl (gJ (xg x), 60, .inr (.inl v25))), (a29, .inl (gI (xg x), 27, .inl w207)), (a30, .inl (gI (xg x), 27, .inl v27)), (a31, .inl (gI (xg x), 27, .inl w208)), (a32, .inl (gI (xg x), 27, .inl v29)), (v30, .inl (gJ (xg x), v31, .inr (.inl v32))), (v33, .inl (gI (xg x), v34, .inl v35)), (v36, .inl (gZ (xg x), v37, .inl v38)), (a33, .inl (gI (xg x), 12, .inl w209)), (a34, .inl (gI (xg x), 27, .inl w210)), (a35, .inl (gI (xg x), 27, .inl v41)), (a36, .inl (gI (xg x), 60, .inl v42)), (a37, .inl (gI (xg x), 3, .inl v43)), (a38, .inl (gJ (xg x), 1, .inr (.inl w201)))] ++ ZP (xg x) a39 v45) (rest := []) (T := TX9) (c_X9_thrown (xl x) (xg x) a27 a28 a29 a30 a31 a32 v30 v33 v36 a33 a34 a35 a36 a37 w205 v20 v21 v22 w206 v24 h) gL_law_X9_thrown (by rfl) rfl rfl (by decide +kernel) ⟨⟨(Nat.le_of_ble_eq_true rfl), (Nat.le_of_ble_eq_true rfl)⟩, (Nat.le_trans (Nat.le_add_right _ _) hk.1), (Nat.le_trans (Nat.le_add_right _ _) hk.2)⟩ (Nat.le_of_ble_eq_true rfl) rfl rfl (sb_zr (sb_of [27, 0, 1, 2, 3, 4, 5, 6, 7, 8, 9, 10, 11, 12, 13, 14, 15, 16, 17, 18, 19, 20, 21, 22, 23, 24, 25, 26, 28, 29, 30, 31, 32, 33, 34, 35, 36, 37, 38, 39, 40, 41] rfl rfl)) rfl dL_law_992 (fun v X1 hp => ?_)
    obtain ⟨r211, rfl, rfl, h⟩ := hp
    refine xw_X (sb_rz (sb_of [1, 2, 3, 4, 5, 6, 7, 8, 9, 10, 11, 12, 13, 14, 15, 16, 17, 18, 19, 20, 21, 22, 23, 24, 25, 26, 27, 0, 28, 29, 30, 31, 32, 33, 34, 35, 36, 37, 38, 39, 40, 41] rfl rfl)) (show ww x (W_L_law (xg x) a0 a1 a2 a3 a4 a5 a6 a7 a8 a9 a10 a11 a12 a13 a14 a15 a16 a17 a18 a19 a20 a21 a22 a23 a24 a25 a26 a27 a28 a29 a30 a31 a32 a33 a34 a35 a36 a37 a38 a39 ab v0 v1 v2 v3 v4 w198 v6 v7 v8 w199 v10 v11 v12 v13 v14 v15 v16 v17 w200 w205 v20 v21 v22 w206 v24 v25 w207 v27 w208 v29 v30 v31 v32 v33 v34 v35 v36 v37 v38 w209 w210 v41 v42 v43 w201 v46 v47 ++ ZP (xg x) a39 v45) [(6, .int r204), (5, .int r197), (0, .ref ab), (1, .ref a0), (2, .ref a27), (3, .ref a38), (4, .int z4)] (k0 + 3) (n0 + 18) 995 [.int r211] from ?_)
    refine xw_iload hf (pc := 995) dL_law_995 1 rfl ?_
    refine xw_icmp_eq hf (pc := 997) dL_law_997 (tgt := 1002) rfl ⟨fun c => ?_, fun c => ?_⟩
    · have h := h.1 c
      refine xw_iload hf (pc := 1002) dL_law_1002 1 rfl ?_
      refine xw_if_ne hf (pc := 1004) dL_law_1004 (c := r197 = 0) Iff.rfl (tgt := 1019) rfl ⟨fun c => ?_, fun c => ?_⟩
      · have h := h.1 c
        refine xw_aload_n hf (pc := 1007) dL_law_1007 rfl 5 rfl ?_
        refine xw_iconst hf (pc := 1008) dL_law_1008 (v := 0) (by decide) ?_
        refine xw_lald hf (pc := 1009) dL_law_1009 41 rfl h.1 ?_
        have h := h.2
        refine xw_iload hf (pc := 1010) dL_law_1010 0 rfl ?_
        refine xw_i2l hf (pc := 1012) dL_law_1012 ?_
        refine xw_lcmp hf (pc := 1013) dL_law_1013 ?_
        refine xw_if_eq hf (pc := 1014) dL_law_1014 (c := (w201 (0 : Int32).toNatClampNeg) = r204.toInt64) (lc_eq _ _) (tgt := 1019) rfl ⟨fun c => ?_, fun c => ?_⟩
        · have h := h.1 c
          refine xw_goto hf (pc := 1019) dL_law_1019 (tgt := 2681) rfl ?_
          refine xw_L [2, 3, 4, 5, 6] rfl ?_
          exact hK2681 _ _ _ _ hk _ _ _ _ _ _ _ _ _ _ h
        · have h := h.2 c
          refine xw_iconst hf (pc := 1017) dL_law_1017 (v := 0) (by decide) ?_
          exact h.elim
      · have h := h.2 c
        refine xw_goto hf (pc := 1019) dL_law_1019 (tgt := 2681) rfl ?_
        refine xw_L [2, 3, 4, 5, 6] rfl ?_
        exact hK2681 _ _ _ _ hk _ _ _ _ _ _ _ _ _ _ h
    · have h := h.2 c
      refine xw_iconst hf (pc := 1000) dL_law_1000 (v := 0) (by decide) ?_
      exact h.elim
set_option maxHeartbeats 4000000 in
set_option maxRecDepth 100000 in
theorem w_L_law_L1022 {x : Cx} {mc ms : Nat} (hf : fx x (rm_L_law) RL cL_law wsL_law) (hn : xn x = 8) {k0 n0 rc rs : Nat} (hk : k0 + rc ≤ (rm_L_law).cells ∧ n0 + rs ≤ (rm_L_law).slots) (a0 a1 a2 a3 a4 a5 a6 a7 a8 a9 a10 a11 a12 a13 a14 a15 a16 a17 a18 a19 a20 a21 a22 a23 a24 a25 a26 a27 a28 a29 a30 a31 a32 a33 a34 a35 a36 a37 a38 a39 ab : Nat) (z4 : Int32) (v5 : Nat → Int32) (v20 : Int32) (v21 : Int32) (v22 : Int32) (v23 : Int32) (v24 : Int32) (v26 : Nat → Int32) (v46 : Nat) (v47 : Nat → Int32) (v0 : Int32) (v1 : Nat → Int64) (v2 : Int32) (v3 : Nat → Int64) (v4 : Nat → Int32) (v6 : Nat → Int32) (v7 : Nat → Int32) (v8 : Int32) (v9 : Nat → Int32) (v10 : Nat → Int32) (v11 : Int32) (v12 : Int32) (v13 : Nat → Int32) (v14 : Int32) (v15 : Nat → Int64) (v16 : Int32) (v17 : Nat → Int64) (v18 : Nat → Int32) (v25 : Nat → Int64) (v27 : Nat → Int32) (v28 : Nat → Int32) (v29 : Nat → Int32) (v30 : Nat) (v31 : Nat) (v32 : Nat → Int64) (v33 : Nat) (v34 : Nat) (v35 : Nat → Int32) (v36 : Nat) (v37 : Nat) (v38 : Nat → Int32) (v39 : Nat → Int32) (v40 : Nat → Int32) (v41 : Nat → Int32) (v42 : Nat → Int32) (v43 : Nat → Int32) (v45 : ZL) {K2681 : Nat → Nat → Int32 → (Nat → Int64) → Prop} (hst : (xl x).stackTraces = false) (hX : sX x ab v46 v47)
    (n : Nat) (v19 : Int32) (v44 : Nat → Int64) (h : P_L_law_L1022 z4 v5 v20 v21 v22 v23 v24 v26 v46 v47 K2681 n rc rs v19 v44)
    (hK2681 : ∀ (k0 n0 rc rs : Nat), k0 + rc ≤ (rm_L_law).cells ∧ n0 + rs ≤ (rm_L_law).slots → ∀ (uv19 : Int32), ∀ (uv44 : Nat → Int64), K2681 rc rs uv19 uv44 → ww x (W_L_law (xg x) a0 a1 a2 a3 a4 a5 a6 a7 a8 a9 a10 a11 a12 a13 a14 a15 a16 a17 a18 a19 a20 a21 a22 a23 a24 a25 a26 a27 a28 a29 a30 a31 a32 a33 a34 a35 a36 a37 a38 a39 ab v0 v1 v2 v3 v4 v5 v6 v7 v8 v9 v10 v11 v12 v13 v14 v15 v16 v17 v18 uv19 v20 v21 v22 v23 v24 v25 v26 v27 v28 v29 v30 v31 v32 v33 v34 v35 v36 v37 v38 v39 v40 v41 v42 v43 uv44 v46 v47 ++ ZP (xg x) a39 v45) [(0, .ref ab), (1, .ref a0), (2, .ref a27), (3, .ref a38), (4, .int z4)] k0 n0 2681 []) :
    ww x (W_L_law (xg x) a0 a1 a2 a3 a4 a5 a6 a7 a8 a9 a10 a11 a12 a13 a14 a15 a16 a17 a18 a19 a20 a21 a22 a23 a24 a25 a26 a27 a28 a29 a30 a31 a32 a33 a34 a35 a36 a37 a38 a39 ab v0 v1 v2 v3 v4 v5 v6 v7 v8 v9 v10 v11 v12 v13 v14 v15 v16 v17 v18 v19 v20 v21 v22 v23 v24 v25 v26 v27 v28 v29 v30 v31 v32 v33 v34 v35 v36 v37 v38 v39 v40 v41 v42 v43 v44 v46 v47 ++ ZP (xg x) a39 v45) [(0, .ref ab), (1, .ref a0), (2, .ref a27), (3, .ref a38), (4, .int z4)] k0 n0 1022 [] := by
  induction n generalizing k0 n0 rc rs v19 v44 with
  | zero => exact h.elim
  | succ n ih =>
    unfold P_L_law_L1022 at h
    refine xw_aload_n hf (pc := 1022) dL_law_1022 rfl 1 rfl ?_
    refine xw_aload_n hf (pc := 1023) dL_law_1023 rfl 0 rfl ?_
    refine xw_iload hf (pc := 1024) dL_law_1024 4 rfl ?_
    refine xw_iconst hf (pc := 1026) dL_law_1026 (v := 1) (by decide) ?_
    refine xw_iadd hf (pc := 1027) dL_law_1027 ?_
    refine xw_sald hf hX dL_law_1028 h.1 ?_
    have h := h.2
    refine xw_aload_n hf (pc := 1029) dL_law_1029 rfl 3 rfl ?_
    obtain ⟨mc228, ms229, ⟨hb1, hb2⟩, h⟩ := h
    refine xw_callSW hf (pc := 1030) (nA := 3) (Xr := [(a1, .inr (2, [.ref a2, .ref a4, .ref a6])), (a2, .inr (7, [.ref a3, .int v0])), (a3, .inl (gJ (xg x), 60, .inr (.inl v1))), (a4, .inr (7, [.ref a5, .int v2])), (a5, .inl (gJ (xg x), 60, .inr (.inl v3))), (a6, .inr (3, [.ref a7])), (a7, .inl (gI (xg x), 32, .inl v4)), (a11, .inl (gI (xg x), 32, .inl v6)), (a12, .inl (gI (xg x), 32, .inl v7)), (a13, .inr (1, [.ref a39, .ref a14, .ref a16, .int v8])), (a14, .inr (3, [.ref a15])), (a15, .inl (gI (xg x), 32, .inl v9)), (a16, .inr (3, [.ref a17])), (a17, .inl (gI (xg x), 32, .inl v10)), (a18, .inr (4, [.ref a19, .ref a21, .ref a23, .int v11, .int v12])), (a19, .inr (3, [.ref a20])), (a20, .inl (gI (xg x), 32, .inl v13)), (a21, .inr (7, [.ref a22, .int v14])), (a22, .inl (gJ (xg x), 60, .inr (.inl v15))), (a23, .inr (7, [.ref a24, .int v16])), (a24, .inl (gJ (xg x), 60, .inr (.inl v17))), (a25, .inr (3, [.ref a26])), (a26, .inl (gI (xg x), 32, .inl v18)), (a27, .inr (9, [.int v19, .ref a28, .int v20, .ref a29, .ref a30, .ref a31, .ref a32, .ref v30, .ref v33, .ref v36, .int v21, .int v22, .ref a33, .int v23, .ref a34, .ref a35, .ref a36, .ref a37, .int v24])), (a28, .inl (gJ (xg x), 60, .inr (.inl v25))), (a29, .inl (gI (xg x), 27, .inl v26)), (a30, .inl (gI (xg x), 27, .inl v27)), (a31, .inl (gI (xg x), 27, .inl v28)), (a32, .inl (gI (xg x), 27, .inl v29)), (v30, .inl (gJ (xg x), v31, .inr (.inl v32))), (v33, .inl (gI (xg x), v34, .inl v35)), (v36, .inl (gZ (xg x), v37, .inl v38)), (a33, .inl (gI (xg x), 12, .inl v39)), (a34, .inl (gI (xg x), 27, .inl v40)), (a35, .inl (gI (xg x), 27, .inl v41)), (a36, .inl (gI (xg x), 60, .inl v42)), (a37, .inl (gI (xg x), 3, .inl v43))] ++ ZP (xg x) a39 v45) (rest := []) (c_L_stockOf (xl x) (xg x) hst a0 a8 a9 a10 a38 a1 a13 a18 a25 a11 a12 v5 v44 (v47 (z4 + 1).toNatClampNeg) h) gL_law_L_stockOf (by rfl) rfl (by decide +kernel) ⟨⟨(Nat.le_of_ble_eq_true rfl), (Nat.le_of_ble_eq_true rfl)⟩, (Nat.le_trans (show k0 + 1 ≤ k0 + rc by omega) hk.1), (Nat.le_trans (show n0 + 6 ≤ n0 + rs by omega) hk.2)⟩ (Nat.le_of_ble_eq_true rfl) (sb_zr (sb_of [0, 8, 9, 10, 41, 1, 2, 3, 4, 5, 6, 7, 11, 12, 13, 14, 15, 16, 17, 18, 19, 20, 21, 22, 23, 24, 25, 26, 27, 28, 29, 30, 31, 32, 33, 34, 35, 36, 37, 38, 39, 40] rfl rfl)) rfl dL_law_1030 (fun v X1 hp => ?_)
    obtain ⟨r226, w227, rfl, rfl, h⟩ := hp
    have hk : k0 + 1 + mc228 ≤ (rm_L_law).cells ∧ n0 + 6 + ms229 ≤ (rm_L_law).slots := ⟨Nat.le_trans (show k0 + 1 + mc228 ≤ k0 + rc by omega) hk.1, Nat.le_trans (show n0 + 6 + ms229 ≤ n0 + rs by omega) hk.2⟩
    refine xw_X (sb_rz (sb_of [0, 5, 6, 7, 8, 9, 10, 11, 1, 2, 3, 12, 13, 14, 15, 16, 17, 18, 19, 20, 21, 22, 23, 24, 25, 26, 27, 28, 29, 30, 31, 32, 33, 34, 35, 36, 37, 38, 39, 40, 41, 4] rfl rfl)) (show ww x (W_L_law (xg x) a0 a1 a2 a3 a4 a5 a6 a7 a8 a9 a10 a11 a12 a13 a14 a15 a16 a17 a18 a19 a20 a21 a22 a23 a24 a25 a26 a27 a28 a29 a30 a31 a32 a33 a34 a35 a36 a37 a38 a39 ab v0 v1 v2 v3 v4 v5 v6 v7 v8 v9 v10 v11 v12 v13 v14 v15 v16 v17 v18 v19 v20 v21 v22 v23 v24 v25 v26 v27 v28 v29 v30 v31 v32 v33 v34 v35 v36 v37 v38 v39 v40 v41 v42 v43 w227 v46 v47 ++ ZP (xg x) a39 v45) [(0, .ref ab), (1, .ref a0), (2, .ref a27), (3, .ref a38), (4, .int z4)] (k0 + 1) (n0 + 6) 1033 [.int r226] from ?_)
    refine xw_istore hf (pc := 1033) dL_law_1033 [(5, .int r226), (0, .ref ab), (1, .ref a0), (2, .ref a27), (3, .ref a38), (4, .int z4)] hn (by decide) rfl ?_
    refine xw_aload_n hf (pc := 1035) dL_law_1035 rfl 3 rfl ?_
    refine xw_aload_n hf (pc := 1036) dL_law_1036 rfl 1 rfl ?_
    refine xw_iload hf (pc := 1037) dL_law_1037 5 rfl ?_
    refine xw_iconst hf (pc := 1039) dL_law_1039 (v := 1) (by decide) ?_
    refine xw_iadd hf (pc := 1040) dL_law_1040 ?_
    refine xw_sald hf hX dL_law_1041 h.1 ?_
    have h := h.2
    refine xw_callV hf (pc := 1042) (nA := 1) (Xr := [(a0, .inr (8, [.ref a1, .ref a8, .ref a13, .ref a18, .ref a25])), (a1, .inr (2, [.ref a2, .ref a4, .ref a6])), (a2, .inr (7, [.ref a3, .int v0])), (a3, .inl (gJ (xg x), 60, .inr (.inl v1))), (a4, .inr (7, [.ref a5, .int v2])), (a5, .inl (gJ (xg x), 60, .inr (.inl v3))), (a6, .inr (3, [.ref a7])), (a7, .inl (gI (xg x), 32, .inl v4)), (a8, .inr (6, [.ref a9, .ref a11, .ref a12])), (a9, .inr (3, [.ref a10])), (a10, .inl (gI (xg x), 32, .inl v5)), (a11, .inl (gI (xg x), 32, .inl v6)), (a12, .inl (gI (xg x), 32, .inl v7)), (a13, .inr (1, [.ref a39, .ref a14, .ref a16, .int v8])), (a14, .inr (3, [.ref a15])), (a15, .inl (gI (xg x), 32, .inl v9)), (a16, .inr (3, [.ref a17])), (a17, .inl (gI (xg x), 32, .inl v10)), (a18, .inr (4, [.ref a19, .ref a21, .ref a23, .int v11, .int v12])), (a19, .inr (3, [.ref a20])), (a20, .inl (gI (xg x), 32, .inl v13)), (a21, .inr (7, [.ref a22, .int v14])), (a22, .inl (gJ (xg x), 60, .inr (.inl v15))), (a23, .inr (7, [.ref a24, .int v16])), (a24, .inl (gJ (xg x), 60, .inr (.inl v17))), (a25, .inr (3, [.ref a26])), (a26, .inl (gI (xg x), 32, .inl v18)), (a28, .inl (gJ (xg x), 60, .inr (.inl v25))), (a30, .inl (gI (xg x), 27, .inl v27)), (a31, .inl (gI (xg x), 27, .inl v28)), (a32, .inl (gI (xg x), 27, .inl v29)), (v30, .inl (gJ (xg x), v31, .inr (.inl v32))), (v33, .inl (gI (xg x), v34, .inl v35)), (v36, .inl (gZ (xg x), v37, .inl v38)), (a33, .inl (gI (xg x), 12, .inl v39)), (a34, .inl (gI (xg x), 27, .inl v40)), (a35, .inl (gI (xg x), 27, .inl v41)), (a36, .inl (gI (xg x), 60, .inl v42)), (a37, .inl (gI (xg x), 3, .inl v43)), (a38, .inl (gJ (xg x), 1, .inr (.inl w227)))] ++ ZP (xg x) a39 v45) (rest := []) (T := TX9) (c_X9_stockOf (xl x) (xg x) a27 a29 a28 a30 a31 a32 v30 v33 v36 a33 a34 a35 a36 a37 v19 v20 v21 v22 v23 v24 v26 (v47 (z4 + 1).toNatClampNeg) h) gL_law_X9_stockOf (by rfl) rfl rfl (by decide +kernel) ⟨⟨(Nat.le_of_ble_eq_true rfl), (Nat.le_of_ble_eq_true rfl)⟩, (Nat.le_trans (Nat.le_add_right _ _) hk.1), (Nat.le_trans (Nat.le_add_right _ _) hk.2)⟩ (Nat.le_of_ble_eq_true rfl) rfl rfl (sb_zr (sb_of [27, 29, 0, 1, 2, 3, 4, 5, 6, 7, 8, 9, 10, 11, 12, 13, 14, 15, 16, 17, 18, 19, 20, 21, 22, 23, 24, 25, 26, 28, 30, 31, 32, 33, 34, 35, 36, 37, 38, 39, 40, 41] rfl rfl)) rfl dL_law_1042 (fun v X1 hp => ?_)
    obtain ⟨r230, w231, rfl, rfl, h⟩ := hp
    refine xw_X (sb_rz (sb_of [2, 3, 4, 5, 6, 7, 8, 9, 10, 11, 12, 13, 14, 15, 16, 17, 18, 19, 20, 21, 22, 23, 24, 25, 26, 27, 28, 0, 29, 1, 30, 31, 32, 33, 34, 35, 36, 37, 38, 39, 40, 41] rfl rfl)) (show ww x (W_L_law (xg x) a0 a1 a2 a3 a4 a5 a6 a7 a8 a9 a10 a11 a12 a13 a14 a15 a16 a17 a18 a19 a20 a21 a22 a23 a24 a25 a26 a27 a28 a29 a30 a31 a32 a33 a34 a35 a36 a37 a38 a39 ab v0 v1 v2 v3 v4 v5 v6 v7 v8 v9 v10 v11 v12 v13 v14 v15 v16 v17 v18 w231 v20 v21 v22 v23 v24 v25 v26 v27 v28 v29 v30 v31 v32 v33 v34 v35 v36 v37 v38 v39 v40 v41 v42 v43 w227 v46 v47 ++ ZP (xg x) a39 v45) [(5, .int r226), (0, .ref ab), (1, .ref a0), (2, .ref a27), (3, .ref a38), (4, .int z4)] (k0 + 1) (n0 + 6) 1045 [.int r230] from ?_)
    refine xw_istore hf (pc := 1045) dL_law_1045 [(6, .int r230), (5, .int r226), (0, .ref ab), (1, .ref a0), (2, .ref a27), (3, .ref a38), (4, .int z4)] hn (by decide) rfl ?_
    refine xw_aload_n hf (pc := 1047) dL_law_1047 rfl 4 rfl ?_
    refine xw_callV hf (pc := 1048) (nA := 0) (Xr := [(a0, .inr (8, [.ref a1, .ref a8, .ref a13, .ref a18, .ref a25])), (a1, .inr (2, [.ref a2, .ref a4, .ref a6])), (a2, .inr (7, [.ref a3, .int v0])), (a3, .inl (gJ (xg x), 60, .inr (.inl v1))), (a4, .inr (7, [.ref a5, .int v2])), (a5, .inl (gJ (xg x), 60, .inr (.inl v3))), (a6, .inr (3, [.ref a7])), (a7, .inl (gI (xg x), 32, .inl v4)), (a8, .inr (6, [.ref a9, .ref a11, .ref a12])), (a9, .inr (3, [.ref a10])), (a10, .inl (gI (xg x), 32, .inl v5)), (a11, .inl (gI (xg x), 32, .inl v6)), (a12, .inl (gI (xg x), 32, .inl v7)), (a13, .inr (1, [.ref a39, .ref a14, .ref a16, .int v8])), (a14, .inr (3, [.ref a15])), (a15, .inl (gI (xg x), 32, .inl v9)), (a16, .inr (3, [.ref a17])), (a17, .inl (gI (xg x), 32, .inl v10)), (a18, .inr (4, [.ref a19, .ref a21, .ref a23, .int v11, .int v12])), (a19, .inr (3, [.ref a20])), (a20, .inl (gI (xg x), 32, .inl v13)), (a21, .inr (7, [.ref a22, .int v14])), (a22, .inl (gJ (xg x), 60, .inr (.inl v15))), (a23, .inr (7, [.ref a24, .int v16])), (a24, .inl (gJ (xg x), 60, .inr (.inl v17))), (a25, .inr (3, [.ref a26])), (a26, .inl (gI (xg x), 32, .inl v18)), (a28, .inl (gJ (xg x), 60, .inr (.inl v25))), (a29, .inl (gI (xg x), 27, .inl v26)), (a30, .inl (gI (xg x), 27, .inl v27)), (a31, .inl (gI (xg x), 27, .inl v28)), (a32, .inl (gI (xg x), 27, .inl v29)), (v30, .inl (gJ (xg x), v31, .inr (.inl v32))), (v33, .inl (gI (xg x), v34, .inl v35)), (v36, .inl (gZ (xg x), v37, .inl v38)), (a33, .inl (gI (xg x), 12, .inl v39)), (a34, .inl (gI (xg x), 27, .inl v40)), (a35, .inl (gI (xg x), 27, .inl v41)), (a36, .inl (gI (xg x), 60, .inl v42)), (a37, .inl (gI (xg x), 3, .inl v43)), (a38, .inl (gJ (xg x), 1, .inr (.inl w227)))] ++ ZP (xg x) a39 v45) (rest := []) (T := TX9) (c_X9_thrown (xl x) (xg x) a27 a28 a29 a30 a31 a32 v30 v33 v36 a33 a34 a35 a36 a37 w231 v20 v21 v22 v23 v24 h) gL_law_X9_thrown (by rfl) rfl rfl (by decide +kernel) ⟨⟨(Nat.le_of_ble_eq_true rfl), (Nat.le_of_ble_eq_true rfl)⟩, (Nat.le_trans (Nat.le_add_right _ _) hk.1), (Nat.le_trans (Nat.le_add_right _ _) hk.2)⟩ (Nat.le_of_ble_eq_true rfl) rfl rfl (sb_zr (sb_of [27, 0, 1, 2, 3, 4, 5, 6, 7, 8, 9, 10, 11, 12, 13, 14, 15, 16, 17, 18, 19, 20, 21, 22, 23, 24, 25, 26, 28, 29, 30, 31, 32, 33, 34, 35, 36, 37, 38, 39, 40, 41] rfl rfl)) rfl dL_law_1048 (fun v X1 hp => ?_)
    obtain ⟨r232, rfl, rfl, h⟩ := hp
    refine xw_X (sb_rz (sb_of [1, 2, 3, 4, 5, 6, 7, 8, 9, 10, 11, 12, 13, 14, 15, 16, 17, 18, 19, 20, 21, 22, 23, 24, 25, 26, 27, 0, 28, 29, 30, 31, 32, 33, 34, 35, 36, 37, 38, 39, 40, 41] rfl rfl)) (show ww x (W_L_law (xg x) a0 a1 a2 a3 a4 a5 a6 a7 a8 a9 a10 a11 a12 a13 a14 a15 a16 a17 a18 a19 a20 a21 a22 a23 a24 a25 a26 a27 a28 a29 a30 a31 a32 a33 a34 a35 a36 a37 a38 a39 ab v0 v1 v2 v3 v4 v5 v6 v7 v8 v9 v10 v11 v12 v13 v14 v15 v16 v17 v18 w231 v20 v21 v22 v23 v24 v25 v26 v27 v28 v29 v30 v31 v32 v33 v34 v35 v36 v37 v38 v39 v40 v41 v42 v43 w227 v46 v47 ++ ZP (xg x) a39 v45) [(6, .int r230), (5, .int r226), (0, .ref ab), (1, .ref a0), (2, .ref a27), (3, .ref a38), (4, .int z4)] (k0 + 1) (n0 + 6) 1051 [.int r232] from ?_)
    refine xw_iload hf (pc := 1051) dL_law_1051 1 rfl ?_
    refine xw_icmp_eq hf (pc := 1053) dL_law_1053 (tgt := 1058) rfl ⟨fun c => ?_, fun c => ?_⟩
    · have h := h.1 c
      refine xw_iload hf (pc := 1058) dL_law_1058 1 rfl ?_
      refine xw_if_ne hf (pc := 1060) dL_law_1060 (c := r226 = 0) Iff.rfl (tgt := 1075) rfl ⟨fun c => ?_, fun c => ?_⟩
      · have h := h.1 c
        refine xw_aload_n hf (pc := 1063) dL_law_1063 rfl 5 rfl ?_
        refine xw_iconst hf (pc := 1064) dL_law_1064 (v := 0) (by decide) ?_
        refine xw_lald hf (pc := 1065) dL_law_1065 41 rfl h.1 ?_
        have h := h.2
        refine xw_iload hf (pc := 1066) dL_law_1066 0 rfl ?_
        refine xw_i2l hf (pc := 1068) dL_law_1068 ?_
        refine xw_lcmp hf (pc := 1069) dL_law_1069 ?_
        refine xw_if_eq hf (pc := 1070) dL_law_1070 (c := (w227 (0 : Int32).toNatClampNeg) = r230.toInt64) (lc_eq _ _) (tgt := 1075) rfl ⟨fun c => ?_, fun c => ?_⟩
        · have h := h.1 c
          refine xw_goto hf (pc := 1075) dL_law_1075 (tgt := 2681) rfl ?_
          refine xw_L [2, 3, 4, 5, 6] rfl ?_
          exact hK2681 _ _ _ _ hk _ _ h
        · have h := h.2 c
          refine xw_iconst hf (pc := 1073) dL_law_1073 (v := 0) (by decide) ?_
          exact h.elim
      · have h := h.2 c
        refine xw_goto hf (pc := 1075) dL_law_1075 (tgt := 2681) rfl ?_
        refine xw_L [2, 3, 4, 5, 6] rfl ?_
        exact hK2681 _ _ _ _ hk _ _ h
    · have h := h.2 c
      refine xw_iconst hf (pc := 1056) dL_law_1056 (v := 0) (by decide) ?_
      exact h.elim
