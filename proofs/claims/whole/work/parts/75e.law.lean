set_option maxHeartbeats 4000000 in
set_option maxRecDepth 100000 in
theorem w_L_law_L1902 {x : Cx} {mc ms : Nat} (hf : fx x (rm_L_law) RL cL_law wsL_law) (hn : xn x = 8) {k0 n0 rc rs : Nat} (hk : k0 + rc ≤ (rm_L_law).cells ∧ n0 + rs ≤ (rm_L_law).slots) (a0 a1 a2 a3 a4 a5 a6 a7 a8 a9 a10 a11 a12 a13 a14 a15 a16 a17 a18 a19 a20 a21 a22 a23 a24 a25 a26 a27 a28 a29 a30 a31 a32 a33 a34 a35 a36 a37 a38 a39 ab : Nat) (z4 : Int32) (v0 : Int32) (v1 : Nat → Int64) (v20 : Int32) (v21 : Int32) (v22 : Int32) (v25 : Nat → Int64) (v46 : Nat) (v47 : Nat → Int32) (v5 : Nat → Int32) (v6 : Nat → Int32) (v7 : Nat → Int32) (v8 : Int32) (v9 : Nat → Int32) (v10 : Nat → Int32) (v18 : Nat → Int32) (v26 : Nat → Int32) (v27 : Nat → Int32) (v28 : Nat → Int32) (v29 : Nat → Int32) (v30 : Nat) (v31 : Nat) (v32 : Nat → Int64) (v33 : Nat) (v34 : Nat) (v35 : Nat → Int32) (v36 : Nat) (v37 : Nat) (v38 : Nat → Int32) (v45 : ZL) {K2681 : Nat → Nat → Int32 → (Nat → Int64) → (Nat → Int32) → Int32 → Int32 → (Nat → Int32) → Int32 → (Nat → Int64) → Int32 → (Nat → Int64) → Int32 → Int32 → Int32 → (Nat → Int32) → (Nat → Int32) → (Nat → Int32) → (Nat → Int32) → (Nat → Int32) → (Nat → Int64) → Prop} (hst : (xl x).stackTraces = false) (hX : sX x ab v46 v47)
    (n : Nat) (v2 : Int32) (v3 : Nat → Int64) (v4 : Nat → Int32) (v11 : Int32) (v12 : Int32) (v13 : Nat → Int32) (v14 : Int32) (v15 : Nat → Int64) (v16 : Int32) (v17 : Nat → Int64) (v19 : Int32) (v23 : Int32) (v24 : Int32) (v39 : Nat → Int32) (v40 : Nat → Int32) (v41 : Nat → Int32) (v42 : Nat → Int32) (v43 : Nat → Int32) (v44 : Nat → Int64) (h : P_L_law_L1902 z4 v0 v1 v20 v21 v22 v25 v46 v47 K2681 n rc rs v2 v3 v4 v11 v12 v13 v14 v15 v16 v17 v19 v23 v24 v39 v40 v41 v42 v43 v44)
    (hK2681 : ∀ (k0 n0 rc rs : Nat), k0 + rc ≤ (rm_L_law).cells ∧ n0 + rs ≤ (rm_L_law).slots → ∀ (uv2 : Int32), ∀ (uv3 : Nat → Int64), ∀ (uv4 : Nat → Int32), ∀ (uv11 : Int32), ∀ (uv12 : Int32), ∀ (uv13 : Nat → Int32), ∀ (uv14 : Int32), ∀ (uv15 : Nat → Int64), ∀ (uv16 : Int32), ∀ (uv17 : Nat → Int64), ∀ (uv19 : Int32), ∀ (uv23 : Int32), ∀ (uv24 : Int32), ∀ (uv39 : Nat → Int32), ∀ (uv40 : Nat → Int32), ∀ (uv41 : Nat → Int32), ∀ (uv42 : Nat → Int32), ∀ (uv43 : Nat → Int32), ∀ (uv44 : Nat → Int64), K2681 rc rs uv2 uv3 uv4 uv11 uv12 uv13 uv14 uv15 uv16 uv17 uv19 uv23 uv24 uv39 uv40 uv41 uv42 uv43 uv44 → ww x (W_L_law (xg x) a0 a1 a2 a3 a4 a5 a6 a7 a8 a9 a10 a11 a12 a13 a14 a15 a16 a17 a18 a19 a20 a21 a22 a23 a24 a25 a26 a27 a28 a29 a30 a31 a32 a33 a34 a35 a36 a37 a38 a39 ab v0 v1 uv2 uv3 uv4 v5 v6 v7 v8 v9 v10 uv11 uv12 uv13 uv14 uv15 uv16 uv17 v18 uv19 v20 v21 v22 uv23 uv24 v25 v26 v27 v28 v29 v30 v31 v32 v33 v34 v35 v36 v37 v38 uv39 uv40 uv41 uv42 uv43 uv44 v46 v47 ++ ZP (xg x) a39 v45) [(0, .ref ab), (1, .ref a0), (2, .ref a27), (3, .ref a38), (4, .int z4)] k0 n0 2681 []) :
    ww x (W_L_law (xg x) a0 a1 a2 a3 a4 a5 a6 a7 a8 a9 a10 a11 a12 a13 a14 a15 a16 a17 a18 a19 a20 a21 a22 a23 a24 a25 a26 a27 a28 a29 a30 a31 a32 a33 a34 a35 a36 a37 a38 a39 ab v0 v1 v2 v3 v4 v5 v6 v7 v8 v9 v10 v11 v12 v13 v14 v15 v16 v17 v18 v19 v20 v21 v22 v23 v24 v25 v26 v27 v28 v29 v30 v31 v32 v33 v34 v35 v36 v37 v38 v39 v40 v41 v42 v43 v44 v46 v47 ++ ZP (xg x) a39 v45) [(0, .ref ab), (1, .ref a0), (2, .ref a27), (3, .ref a38), (4, .int z4)] k0 n0 1902 [] := by
  induction n generalizing k0 n0 rc rs v2 v3 v4 v11 v12 v13 v14 v15 v16 v17 v19 v23 v24 v39 v40 v41 v42 v43 v44 with
  | zero => exact h.elim
  | succ n ih =>
    unfold P_L_law_L1902 at h
    refine xw_aload_n hf (pc := 1902) dL_law_1902 rfl 1 rfl ?_
    refine xw_aload_n hf (pc := 1903) dL_law_1903 rfl 0 rfl ?_
    refine xw_iload hf (pc := 1904) dL_law_1904 4 rfl ?_
    refine xw_iconst hf (pc := 1906) dL_law_1906 (v := 1) (by decide) ?_
    refine xw_iadd hf (pc := 1907) dL_law_1907 ?_
    refine xw_sald hf hX dL_law_1908 h.1 ?_
    have h := h.2
    refine xw_i2l hf (pc := 1909) dL_law_1909 ?_
    refine xw_bipush hf (pc := 1910) dL_law_1910 (v := 32) (by decide) ?_
    refine xw_lshl hf (pc := 1912) dL_law_1912 ?_
    refine xw_aload_n hf (pc := 1913) dL_law_1913 rfl 0 rfl ?_
    refine xw_iload hf (pc := 1914) dL_law_1914 4 rfl ?_
    refine xw_iconst hf (pc := 1916) dL_law_1916 (v := 2) (by decide) ?_
    refine xw_iadd hf (pc := 1917) dL_law_1917 ?_
    refine xw_sald hf hX dL_law_1918 h.1 ?_
    have h := h.2
    refine xw_i2l hf (pc := 1919) dL_law_1919 ?_
    refine xw_ldc2 hf (pc := 1920) dL_law_1920 mw_L_law_0 ?_
    refine xw_land hf (pc := 1923) dL_law_1923 ?_
    refine xw_lor hf (pc := 1924) dL_law_1924 ?_
    refine xw_aload_n hf (pc := 1925) dL_law_1925 rfl 0 rfl ?_
    refine xw_iload hf (pc := 1926) dL_law_1926 4 rfl ?_
    refine xw_iconst hf (pc := 1928) dL_law_1928 (v := 3) (by decide) ?_
    refine xw_iadd hf (pc := 1929) dL_law_1929 ?_
    refine xw_sald hf hX dL_law_1930 h.1 ?_
    have h := h.2
    refine xw_aload_n hf (pc := 1931) dL_law_1931 rfl 3 rfl ?_
    obtain ⟨mc548, ms549, ⟨hb1, hb2⟩, h⟩ := h
    refine xw_callSW hf (pc := 1932) (nA := 4) (Xr := [(a8, .inr (6, [.ref a9, .ref a11, .ref a12])), (a9, .inr (3, [.ref a10])), (a10, .inl (gI (xg x), 32, .inl v5)), (a11, .inl (gI (xg x), 32, .inl v6)), (a12, .inl (gI (xg x), 32, .inl v7)), (a13, .inr (1, [.ref a39, .ref a14, .ref a16, .int v8])), (a14, .inr (3, [.ref a15])), (a15, .inl (gI (xg x), 32, .inl v9)), (a16, .inr (3, [.ref a17])), (a17, .inl (gI (xg x), 32, .inl v10)), (a25, .inr (3, [.ref a26])), (a26, .inl (gI (xg x), 32, .inl v18)), (a27, .inr (9, [.int v19, .ref a28, .int v20, .ref a29, .ref a30, .ref a31, .ref a32, .ref v30, .ref v33, .ref v36, .int v21, .int v22, .ref a33, .int v23, .ref a34, .ref a35, .ref a36, .ref a37, .int v24])), (a28, .inl (gJ (xg x), 60, .inr (.inl v25))), (a29, .inl (gI (xg x), 27, .inl v26)), (a30, .inl (gI (xg x), 27, .inl v27)), (a31, .inl (gI (xg x), 27, .inl v28)), (a32, .inl (gI (xg x), 27, .inl v29)), (v30, .inl (gJ (xg x), v31, .inr (.inl v32))), (v33, .inl (gI (xg x), v34, .inl v35)), (v36, .inl (gZ (xg x), v37, .inl v38)), (a33, .inl (gI (xg x), 12, .inl v39)), (a34, .inl (gI (xg x), 27, .inl v40)), (a35, .inl (gI (xg x), 27, .inl v41)), (a36, .inl (gI (xg x), 60, .inl v42)), (a37, .inl (gI (xg x), 3, .inl v43))] ++ ZP (xg x) a39 v45) (rest := []) (c_L_planLength (xl x) (xg x) hst a0 a1 a2 a3 a4 a5 a6 a7 a18 a19 a20 a21 a22 a23 a24 a38 a8 a13 a25 v0 v1 v2 v3 v4 v11 v12 v13 v14 v15 v16 v17 v44 ((((v47 (z4 + 1).toNatClampNeg).toInt64) <<< ((32 : Int32).toInt64 &&& 63)) ||| (((v47 (z4 + 2).toNatClampNeg).toInt64) &&& 4294967295)) (v47 (z4 + 3).toNatClampNeg) h) gL_law_L_planLength (by rfl) rfl (by decide +kernel) ⟨⟨(Nat.le_of_ble_eq_true rfl), (Nat.le_of_ble_eq_true rfl)⟩, (Nat.le_trans (show k0 + 2 ≤ k0 + rc by omega) hk.1), (Nat.le_trans (show n0 + 12 ≤ n0 + rs by omega) hk.2)⟩ (Nat.le_of_ble_eq_true rfl) (sb_zr (sb_of [0, 1, 2, 3, 4, 5, 6, 7, 18, 19, 20, 21, 22, 23, 24, 41, 8, 9, 10, 11, 12, 13, 14, 15, 16, 17, 25, 26, 27, 28, 29, 30, 31, 32, 33, 34, 35, 36, 37, 38, 39, 40] rfl rfl)) rfl dL_law_1932 (fun v X1 hp => ?_)
    obtain ⟨r536, w537, w538, w539, w540, w541, w542, w543, w544, w545, w546, w547, rfl, rfl, h⟩ := hp
    have hk : k0 + 2 + mc548 ≤ (rm_L_law).cells ∧ n0 + 12 + ms549 ≤ (rm_L_law).slots := ⟨Nat.le_trans (show k0 + 2 + mc548 ≤ k0 + rc by omega) hk.1, Nat.le_trans (show n0 + 12 + ms549 ≤ n0 + rs by omega) hk.2⟩
    refine xw_X (sb_rz (sb_of [0, 1, 2, 3, 4, 5, 6, 7, 16, 17, 18, 19, 20, 21, 22, 23, 24, 25, 8, 9, 10, 11, 12, 13, 14, 26, 27, 28, 29, 30, 31, 32, 33, 34, 35, 36, 37, 38, 39, 40, 41, 15] rfl rfl)) (show ww x (W_L_law (xg x) a0 a1 a2 a3 a4 a5 a6 a7 a8 a9 a10 a11 a12 a13 a14 a15 a16 a17 a18 a19 a20 a21 a22 a23 a24 a25 a26 a27 a28 a29 a30 a31 a32 a33 a34 a35 a36 a37 a38 a39 ab v0 v1 w537 w538 w539 v5 v6 v7 v8 v9 v10 w540 w541 w542 w543 w544 w545 w546 v18 v19 v20 v21 v22 v23 v24 v25 v26 v27 v28 v29 v30 v31 v32 v33 v34 v35 v36 v37 v38 v39 v40 v41 v42 v43 w547 v46 v47 ++ ZP (xg x) a39 v45) [(0, .ref ab), (1, .ref a0), (2, .ref a27), (3, .ref a38), (4, .int z4)] (k0 + 2) (n0 + 12) 1935 [.int r536] from ?_)
    refine xw_istore hf (pc := 1935) dL_law_1935 [(5, .int r536), (0, .ref ab), (1, .ref a0), (2, .ref a27), (3, .ref a38), (4, .int z4)] hn (by decide) rfl ?_
    refine xw_aload_n hf (pc := 1937) dL_law_1937 rfl 3 rfl ?_
    refine xw_aload_n hf (pc := 1938) dL_law_1938 rfl 1 rfl ?_
    refine xw_iload hf (pc := 1939) dL_law_1939 5 rfl ?_
    refine xw_iconst hf (pc := 1941) dL_law_1941 (v := 1) (by decide) ?_
    refine xw_iadd hf (pc := 1942) dL_law_1942 ?_
    refine xw_sald hf hX dL_law_1943 h.1 ?_
    have h := h.2
    refine xw_i2l hf (pc := 1944) dL_law_1944 ?_
    refine xw_bipush hf (pc := 1945) dL_law_1945 (v := 32) (by decide) ?_
    refine xw_lshl hf (pc := 1947) dL_law_1947 ?_
    refine xw_aload_n hf (pc := 1948) dL_law_1948 rfl 1 rfl ?_
    refine xw_iload hf (pc := 1949) dL_law_1949 5 rfl ?_
    refine xw_iconst hf (pc := 1951) dL_law_1951 (v := 2) (by decide) ?_
    refine xw_iadd hf (pc := 1952) dL_law_1952 ?_
    refine xw_sald hf hX dL_law_1953 h.1 ?_
    have h := h.2
    refine xw_i2l hf (pc := 1954) dL_law_1954 ?_
    refine xw_ldc2 hf (pc := 1955) dL_law_1955 mw_L_law_0 ?_
    refine xw_land hf (pc := 1958) dL_law_1958 ?_
    refine xw_lor hf (pc := 1959) dL_law_1959 ?_
    refine xw_aload_n hf (pc := 1960) dL_law_1960 rfl 1 rfl ?_
    refine xw_iload hf (pc := 1961) dL_law_1961 5 rfl ?_
    refine xw_iconst hf (pc := 1963) dL_law_1963 (v := 3) (by decide) ?_
    refine xw_iadd hf (pc := 1964) dL_law_1964 ?_
    refine xw_sald hf hX dL_law_1965 h.1 ?_
    have h := h.2
    refine xw_callV hf (pc := 1966) (nA := 2) (Xr := [(a0, .inr (8, [.ref a1, .ref a8, .ref a13, .ref a18, .ref a25])), (a1, .inr (2, [.ref a2, .ref a4, .ref a6])), (a2, .inr (7, [.ref a3, .int v0])), (a3, .inl (gJ (xg x), 60, .inr (.inl v1))), (a4, .inr (7, [.ref a5, .int w537])), (a5, .inl (gJ (xg x), 60, .inr (.inl w538))), (a6, .inr (3, [.ref a7])), (a7, .inl (gI (xg x), 32, .inl w539)), (a8, .inr (6, [.ref a9, .ref a11, .ref a12])), (a9, .inr (3, [.ref a10])), (a10, .inl (gI (xg x), 32, .inl v5)), (a11, .inl (gI (xg x), 32, .inl v6)), (a12, .inl (gI (xg x), 32, .inl v7)), (a13, .inr (1, [.ref a39, .ref a14, .ref a16, .int v8])), (a14, .inr (3, [.ref a15])), (a15, .inl (gI (xg x), 32, .inl v9)), (a16, .inr (3, [.ref a17])), (a17, .inl (gI (xg x), 32, .inl v10)), (a18, .inr (4, [.ref a19, .ref a21, .ref a23, .int w540, .int w541])), (a19, .inr (3, [.ref a20])), (a20, .inl (gI (xg x), 32, .inl w542)), (a21, .inr (7, [.ref a22, .int w543])), (a22, .inl (gJ (xg x), 60, .inr (.inl w544))), (a23, .inr (7, [.ref a24, .int w545])), (a24, .inl (gJ (xg x), 60, .inr (.inl w546))), (a25, .inr (3, [.ref a26])), (a26, .inl (gI (xg x), 32, .inl v18)), (a29, .inl (gI (xg x), 27, .inl v26)), (a30, .inl (gI (xg x), 27, .inl v27)), (a31, .inl (gI (xg x), 27, .inl v28)), (a32, .inl (gI (xg x), 27, .inl v29)), (v30, .inl (gJ (xg x), v31, .inr (.inl v32))), (v33, .inl (gI (xg x), v34, .inl v35)), (v36, .inl (gZ (xg x), v37, .inl v38)), (a38, .inl (gJ (xg x), 1, .inr (.inl w547)))] ++ ZP (xg x) a39 v45) (rest := []) (T := TX9) (c_X9_planLength (xl x) (xg x) a27 a28 a33 a34 a35 a36 a37 a29 a30 a31 a32 v30 v33 v36 v19 v20 v21 v22 v23 v24 v25 v39 v40 v41 v42 v43 ((((v47 (z4 + 1).toNatClampNeg).toInt64) <<< ((32 : Int32).toInt64 &&& 63)) ||| (((v47 (z4 + 2).toNatClampNeg).toInt64) &&& 4294967295)) (v47 (z4 + 3).toNatClampNeg) h) gL_law_X9_planLength (by rfl) rfl rfl (by decide +kernel) ⟨⟨(Nat.le_of_ble_eq_true rfl), (Nat.le_of_ble_eq_true rfl)⟩, (Nat.le_trans (Nat.le_add_right _ _) hk.1), (Nat.le_trans (Nat.le_add_right _ _) hk.2)⟩ (Nat.le_of_ble_eq_true rfl) rfl rfl (sb_zr (sb_of [27, 28, 36, 37, 38, 39, 40, 0, 1, 2, 3, 4, 5, 6, 7, 8, 9, 10, 11, 12, 13, 14, 15, 16, 17, 18, 19, 20, 21, 22, 23, 24, 25, 26, 29, 30, 31, 32, 33, 34, 35, 41] rfl rfl)) rfl dL_law_1966 (fun v X1 hp => ?_)
    obtain ⟨r550, w551, w552, w553, w554, w555, w556, w557, w558, rfl, rfl, h⟩ := hp
    refine xw_X (sb_rz (sb_of [7, 8, 9, 10, 11, 12, 13, 14, 15, 16, 17, 18, 19, 20, 21, 22, 23, 24, 25, 26, 27, 28, 29, 30, 31, 32, 33, 0, 1, 34, 35, 36, 37, 38, 39, 40, 2, 3, 4, 5, 6, 41] rfl rfl)) (show ww x (W_L_law (xg x) a0 a1 a2 a3 a4 a5 a6 a7 a8 a9 a10 a11 a12 a13 a14 a15 a16 a17 a18 a19 a20 a21 a22 a23 a24 a25 a26 a27 a28 a29 a30 a31 a32 a33 a34 a35 a36 a37 a38 a39 ab v0 v1 w537 w538 w539 v5 v6 v7 v8 v9 v10 w540 w541 w542 w543 w544 w545 w546 v18 w551 v20 v21 v22 w552 w553 v25 v26 v27 v28 v29 v30 v31 v32 v33 v34 v35 v36 v37 v38 w554 w555 w556 w557 w558 w547 v46 v47 ++ ZP (xg x) a39 v45) [(5, .int r536), (0, .ref ab), (1, .ref a0), (2, .ref a27), (3, .ref a38), (4, .int z4)] (k0 + 2) (n0 + 12) 1969 [.int r550] from ?_)
    refine xw_istore hf (pc := 1969) dL_law_1969 [(6, .int r550), (5, .int r536), (0, .ref ab), (1, .ref a0), (2, .ref a27), (3, .ref a38), (4, .int z4)] hn (by decide) rfl ?_
    refine xw_aload_n hf (pc := 1971) dL_law_1971 rfl 4 rfl ?_
    refine xw_callV hf (pc := 1972) (nA := 0) (Xr := [(a0, .inr (8, [.ref a1, .ref a8, .ref a13, .ref a18, .ref a25])), (a1, .inr (2, [.ref a2, .ref a4, .ref a6])), (a2, .inr (7, [.ref a3, .int v0])), (a3, .inl (gJ (xg x), 60, .inr (.inl v1))), (a4, .inr (7, [.ref a5, .int w537])), (a5, .inl (gJ (xg x), 60, .inr (.inl w538))), (a6, .inr (3, [.ref a7])), (a7, .inl (gI (xg x), 32, .inl w539)), (a8, .inr (6, [.ref a9, .ref a11, .ref a12])), (a9, .inr (3, [.ref a10])), (a10, .inl (gI (xg x), 32, .inl v5)), (a11, .inl (gI (xg x), 32, .inl v6)), (a12, .inl (gI (xg x), 32, .inl v7)), (a13, .inr (1, [.ref a39, .ref a14, .ref a16, .int v8])), (a14, .inr (3, [.ref a15])), (a15, .inl (gI (xg x), 32, .inl v9)), (a16, .inr (3, [.ref a17])), (a17, .inl (gI (xg x), 32, .inl v10)), (a18, .inr (4, [.ref a19, .ref a21, .ref a23, .int w540, .int w541])), (a19, .inr (3, [.ref a20])), (a20, .inl (gI (xg x), 32, .inl w542)), (a21, .inr (7, [.ref a22, .int w543])), (a22, .inl (gJ (xg x), 60, .inr (.inl w544))), (a23, .inr (7, [.ref a24, .int w545])), (a24, .inl (gJ (xg x), 60, .inr (.inl w546))), (a25, .inr (3, [.ref a26])), (a26, .inl (gI (xg x), 32, .inl v18)), (a28, .inl (gJ (xg x), 60, .inr (.inl v25))), (a29, .inl (gI (xg x), 27, .inl v26)), (a30, .inl (gI (xg x), 27, .inl v27)), (a31, .inl (gI (xg x), 27, .inl v28)), (a32, .inl (gI (xg x), 27, .inl v29)), (v30, .inl (gJ (xg x), v31, .inr (.inl v32))), (v33, .inl (gI (xg x), v34, .inl v35)), (v36, .inl (gZ (xg x), v37, .inl v38)), (a33, .inl (gI (xg x), 12, .inl w554)), (a34, .inl (gI (xg x), 27, .inl w555)), (a35, .inl (gI (xg x), 27, .inl w556)), (a36, .inl (gI (xg x), 60, .inl w557)), (a37, .inl (gI (xg x), 3, .inl w558)), (a38, .inl (gJ (xg x), 1, .inr (.inl w547)))] ++ ZP (xg x) a39 v45) (rest := []) (T := TX9) (c_X9_thrown (xl x) (xg x) a27 a28 a29 a30 a31 a32 v30 v33 v36 a33 a34 a35 a36 a37 w551 v20 v21 v22 w552 w553 h) gL_law_X9_thrown (by rfl) rfl rfl (by decide +kernel) ⟨⟨(Nat.le_of_ble_eq_true rfl), (Nat.le_of_ble_eq_true rfl)⟩, (Nat.le_trans (Nat.le_add_right _ _) hk.1), (Nat.le_trans (Nat.le_add_right _ _) hk.2)⟩ (Nat.le_of_ble_eq_true rfl) rfl rfl (sb_zr (sb_of [27, 0, 1, 2, 3, 4, 5, 6, 7, 8, 9, 10, 11, 12, 13, 14, 15, 16, 17, 18, 19, 20, 21, 22, 23, 24, 25, 26, 28, 29, 30, 31, 32, 33, 34, 35, 36, 37, 38, 39, 40, 41] rfl rfl)) rfl dL_law_1972 (fun v X1 hp => ?_)
    obtain ⟨r559, rfl, rfl, h⟩ := hp
    refine xw_X (sb_rz (sb_of [1, 2, 3, 4, 5, 6, 7, 8, 9, 10, 11, 12, 13, 14, 15, 16, 17, 18, 19, 20, 21, 22, 23, 24, 25, 26, 27, 0, 28, 29, 30, 31, 32, 33, 34, 35, 36, 37, 38, 39, 40, 41] rfl rfl)) (show ww x (W_L_law (xg x) a0 a1 a2 a3 a4 a5 a6 a7 a8 a9 a10 a11 a12 a13 a14 a15 a16 a17 a18 a19 a20 a21 a22 a23 a24 a25 a26 a27 a28 a29 a30 a31 a32 a33 a34 a35 a36 a37 a38 a39 ab v0 v1 w537 w538 w539 v5 v6 v7 v8 v9 v10 w540 w541 w542 w543 w544 w545 w546 v18 w551 v20 v21 v22 w552 w553 v25 v26 v27 v28 v29 v30 v31 v32 v33 v34 v35 v36 v37 v38 w554 w555 w556 w557 w558 w547 v46 v47 ++ ZP (xg x) a39 v45) [(6, .int r550), (5, .int r536), (0, .ref ab), (1, .ref a0), (2, .ref a27), (3, .ref a38), (4, .int z4)] (k0 + 2) (n0 + 12) 1975 [.int r559] from ?_)
    refine xw_iload hf (pc := 1975) dL_law_1975 1 rfl ?_
    refine xw_icmp_eq hf (pc := 1977) dL_law_1977 (tgt := 1982) rfl ⟨fun c => ?_, fun c => ?_⟩
    · have h := h.1 c
      refine xw_iload hf (pc := 1982) dL_law_1982 1 rfl ?_
      refine xw_if_ne hf (pc := 1984) dL_law_1984 (c := r536 = 0) Iff.rfl (tgt := 1999) rfl ⟨fun c => ?_, fun c => ?_⟩
      · have h := h.1 c
        refine xw_aload_n hf (pc := 1987) dL_law_1987 rfl 5 rfl ?_
        refine xw_iconst hf (pc := 1988) dL_law_1988 (v := 0) (by decide) ?_
        refine xw_lald hf (pc := 1989) dL_law_1989 41 rfl h.1 ?_
        have h := h.2
        refine xw_iload hf (pc := 1990) dL_law_1990 0 rfl ?_
        refine xw_i2l hf (pc := 1992) dL_law_1992 ?_
        refine xw_lcmp hf (pc := 1993) dL_law_1993 ?_
        refine xw_if_eq hf (pc := 1994) dL_law_1994 (c := (w547 (0 : Int32).toNatClampNeg) = r550.toInt64) (lc_eq _ _) (tgt := 1999) rfl ⟨fun c => ?_, fun c => ?_⟩
        · have h := h.1 c
          refine xw_goto hf (pc := 1999) dL_law_1999 (tgt := 2681) rfl ?_
          refine xw_L [2, 3, 4, 5, 6] rfl ?_
          exact hK2681 _ _ _ _ hk _ _ _ _ _ _ _ _ _ _ _ _ _ _ _ _ _ _ _ h
        · have h := h.2 c
          refine xw_iconst hf (pc := 1997) dL_law_1997 (v := 0) (by decide) ?_
          exact h.elim
      · have h := h.2 c
        refine xw_goto hf (pc := 1999) dL_law_1999 (tgt := 2681) rfl ?_
        refine xw_L [2, 3, 4, 5, 6] rfl ?_
        exact hK2681 _ _ _ _ hk _ _ _ _ _ _ _ _ _ _ _ _ _ _ _ _ _ _ _ h
    · have h := h.2 c
      refine xw_iconst hf (pc := 1980) dL_law_1980 (v := 0) (by decide) ?_
      exact h.elim
set_option maxHeartbeats 4000000 in
set_option maxRecDepth 100000 in
theorem w_L_law_L2002 {x : Cx} {mc ms : Nat} (hf : fx x (rm_L_law) RL cL_law wsL_law) (hn : xn x = 8) {k0 n0 rc rs : Nat} (hk : k0 + rc ≤ (rm_L_law).cells ∧ n0 + rs ≤ (rm_L_law).slots) (a0 a1 a2 a3 a4 a5 a6 a7 a8 a9 a10 a11 a12 a13 a14 a15 a16 a17 a18 a19 a20 a21 a22 a23 a24 a25 a26 a27 a28 a29 a30 a31 a32 a33 a34 a35 a36 a37 a38 a39 ab : Nat) (z4 : Int32) (v0 : Int32) (v1 : Nat → Int64) (v20 : Int32) (v21 : Int32) (v22 : Int32) (v25 : Nat → Int64) (v46 : Nat) (v47 : Nat → Int32) (v5 : Nat → Int32) (v6 : Nat → Int32) (v7 : Nat → Int32) (v8 : Int32) (v9 : Nat → Int32) (v10 : Nat → Int32) (v18 : Nat → Int32) (v26 : Nat → Int32) (v27 : Nat → Int32) (v28 : Nat → Int32) (v29 : Nat → Int32) (v30 : Nat) (v31 : Nat) (v32 : Nat → Int64) (v33 : Nat) (v34 : Nat) (v35 : Nat → Int32) (v36 : Nat) (v37 : Nat) (v38 : Nat → Int32) (v45 : ZL) {K2681 : Nat → Nat → Int32 → (Nat → Int64) → (Nat → Int32) → Int32 → Int32 → (Nat → Int32) → Int32 → (Nat → Int64) → Int32 → (Nat → Int64) → Int32 → Int32 → Int32 → (Nat → Int32) → (Nat → Int32) → (Nat → Int32) → (Nat → Int32) → (Nat → Int32) → (Nat → Int64) → Prop} (hst : (xl x).stackTraces = false) (hX : sX x ab v46 v47)
    (n : Nat) (v2 : Int32) (v3 : Nat → Int64) (v4 : Nat → Int32) (v11 : Int32) (v12 : Int32) (v13 : Nat → Int32) (v14 : Int32) (v15 : Nat → Int64) (v16 : Int32) (v17 : Nat → Int64) (v19 : Int32) (v23 : Int32) (v24 : Int32) (v39 : Nat → Int32) (v40 : Nat → Int32) (v41 : Nat → Int32) (v42 : Nat → Int32) (v43 : Nat → Int32) (v44 : Nat → Int64) (h : P_L_law_L2002 z4 v0 v1 v20 v21 v22 v25 v46 v47 K2681 n rc rs v2 v3 v4 v11 v12 v13 v14 v15 v16 v17 v19 v23 v24 v39 v40 v41 v42 v43 v44)
    (hK2681 : ∀ (k0 n0 rc rs : Nat), k0 + rc ≤ (rm_L_law).cells ∧ n0 + rs ≤ (rm_L_law).slots → ∀ (uv2 : Int32), ∀ (uv3 : Nat → Int64), ∀ (uv4 : Nat → Int32), ∀ (uv11 : Int32), ∀ (uv12 : Int32), ∀ (uv13 : Nat → Int32), ∀ (uv14 : Int32), ∀ (uv15 : Nat → Int64), ∀ (uv16 : Int32), ∀ (uv17 : Nat → Int64), ∀ (uv19 : Int32), ∀ (uv23 : Int32), ∀ (uv24 : Int32), ∀ (uv39 : Nat → Int32), ∀ (uv40 : Nat → Int32), ∀ (uv41 : Nat → Int32), ∀ (uv42 : Nat → Int32), ∀ (uv43 : Nat → Int32), ∀ (uv44 : Nat → Int64), K2681 rc rs uv2 uv3 uv4 uv11 uv12 uv13 uv14 uv15 uv16 uv17 uv19 uv23 uv24 uv39 uv40 uv41 uv42 uv43 uv44 → ww x (W_L_law (xg x) a0 a1 a2 a3 a4 a5 a6 a7 a8 a9 a10 a11 a12 a13 a14 a15 a16 a17 a18 a19 a20 a21 a22 a23 a24 a25 a26 a27 a28 a29 a30 a31 a32 a33 a34 a35 a36 a37 a38 a39 ab v0 v1 uv2 uv3 uv4 v5 v6 v7 v8 v9 v10 uv11 uv12 uv13 uv14 uv15 uv16 uv17 v18 uv19 v20 v21 v22 uv23 uv24 v25 v26 v27 v28 v29 v30 v31 v32 v33 v34 v35 v36 v37 v38 uv39 uv40 uv41 uv42 uv43 uv44 v46 v47 ++ ZP (xg x) a39 v45) [(0, .ref ab), (1, .ref a0), (2, .ref a27), (3, .ref a38), (4, .int z4)] k0 n0 2681 []) :
    ww x (W_L_law (xg x) a0 a1 a2 a3 a4 a5 a6 a7 a8 a9 a10 a11 a12 a13 a14 a15 a16 a17 a18 a19 a20 a21 a22 a23 a24 a25 a26 a27 a28 a29 a30 a31 a32 a33 a34 a35 a36 a37 a38 a39 ab v0 v1 v2 v3 v4 v5 v6 v7 v8 v9 v10 v11 v12 v13 v14 v15 v16 v17 v18 v19 v20 v21 v22 v23 v24 v25 v26 v27 v28 v29 v30 v31 v32 v33 v34 v35 v36 v37 v38 v39 v40 v41 v42 v43 v44 v46 v47 ++ ZP (xg x) a39 v45) [(0, .ref ab), (1, .ref a0), (2, .ref a27), (3, .ref a38), (4, .int z4)] k0 n0 2002 [] := by
  induction n generalizing k0 n0 rc rs v2 v3 v4 v11 v12 v13 v14 v15 v16 v17 v19 v23 v24 v39 v40 v41 v42 v43 v44 with
  | zero => exact h.elim
  | succ n ih =>
    unfold P_L_law_L2002 at h
    refine xw_aload_n hf (pc := 2002) dL_law_2002 rfl 1 rfl ?_
    refine xw_aload_n hf (pc := 2003) dL_law_2003 rfl 0 rfl ?_
    refine xw_iload hf (pc := 2004) dL_law_2004 4 rfl ?_
    refine xw_iconst hf (pc := 2006) dL_law_2006 (v := 1) (by decide) ?_
    refine xw_iadd hf (pc := 2007) dL_law_2007 ?_
    refine xw_sald hf hX dL_law_2008 h.1 ?_
    have h := h.2
    refine xw_i2l hf (pc := 2009) dL_law_2009 ?_
    refine xw_bipush hf (pc := 2010) dL_law_2010 (v := 32) (by decide) ?_
    refine xw_lshl hf (pc := 2012) dL_law_2012 ?_
    refine xw_aload_n hf (pc := 2013) dL_law_2013 rfl 0 rfl ?_
    refine xw_iload hf (pc := 2014) dL_law_2014 4 rfl ?_
    refine xw_iconst hf (pc := 2016) dL_law_2016 (v := 2) (by decide) ?_
    refine xw_iadd hf (pc := 2017) dL_law_2017 ?_
    refine xw_sald hf hX dL_law_2018 h.1 ?_
    have h := h.2
    refine xw_i2l hf (pc := 2019) dL_law_2019 ?_
    refine xw_ldc2 hf (pc := 2020) dL_law_2020 mw_L_law_0 ?_
    refine xw_land hf (pc := 2023) dL_law_2023 ?_
    refine xw_lor hf (pc := 2024) dL_law_2024 ?_
    refine xw_aload_n hf (pc := 2025) dL_law_2025 rfl 0 rfl ?_
    refine xw_iload hf (pc := 2026) dL_law_2026 4 rfl ?_
    refine xw_iconst hf (pc := 2028) dL_law_2028 (v := 3) (by decide) ?_
    refine xw_iadd hf (pc := 2029) dL_law_2029 ?_
    refine xw_sald hf hX dL_law_2030 h.1 ?_
    have h := h.2
    refine xw_aload_n hf (pc := 2031) dL_law_2031 rfl 0 rfl ?_
    refine xw_iload hf (pc := 2032) dL_law_2032 4 rfl ?_
    refine xw_iconst hf (pc := 2034) dL_law_2034 (v := 4) (by decide) ?_
    refine xw_iadd hf (pc := 2035) dL_law_2035 ?_
    refine xw_sald hf hX dL_law_2036 h.1 ?_
    have h := h.2
    refine xw_aload_n hf (pc := 2037) dL_law_2037 rfl 3 rfl ?_
    obtain ⟨mc595, ms596, ⟨hb1, hb2⟩, h⟩ := h
    refine xw_callSW hf (pc := 2038) (nA := 5) (Xr := [(a8, .inr (6, [.ref a9, .ref a11, .ref a12])), (a9, .inr (3, [.ref a10])), (a10, .inl (gI (xg x), 32, .inl v5)), (a11, .inl (gI (xg x), 32, .inl v6)), (a12, .inl (gI (xg x), 32, .inl v7)), (a13, .inr (1, [.ref a39, .ref a14, .ref a16, .int v8])), (a14, .inr (3, [.ref a15])), (a15, .inl (gI (xg x), 32, .inl v9)), (a16, .inr (3, [.ref a17])), (a17, .inl (gI (xg x), 32, .inl v10)), (a25, .inr (3, [.ref a26])), (a26, .inl (gI (xg x), 32, .inl v18)), (a27, .inr (9, [.int v19, .ref a28, .int v20, .ref a29, .ref a30, .ref a31, .ref a32, .ref v30, .ref v33, .ref v36, .int v21, .int v22, .ref a33, .int v23, .ref a34, .ref a35, .ref a36, .ref a37, .int v24])), (a28, .inl (gJ (xg x), 60, .inr (.inl v25))), (a29, .inl (gI (xg x), 27, .inl v26)), (a30, .inl (gI (xg x), 27, .inl v27)), (a31, .inl (gI (xg x), 27, .inl v28)), (a32, .inl (gI (xg x), 27, .inl v29)), (v30, .inl (gJ (xg x), v31, .inr (.inl v32))), (v33, .inl (gI (xg x), v34, .inl v35)), (v36, .inl (gZ (xg x), v37, .inl v38)), (a33, .inl (gI (xg x), 12, .inl v39)), (a34, .inl (gI (xg x), 27, .inl v40)), (a35, .inl (gI (xg x), 27, .inl v41)), (a36, .inl (gI (xg x), 60, .inl v42)), (a37, .inl (gI (xg x), 3, .inl v43))] ++ ZP (xg x) a39 v45) (rest := []) (c_L_planWord (xl x) (xg x) hst a0 a1 a2 a3 a4 a5 a6 a7 a18 a19 a20 a21 a22 a23 a24 a38 a8 a13 a25 v0 v1 v2 v3 v4 v11 v12 v13 v14 v15 v16 v17 v44 ((((v47 (z4 + 1).toNatClampNeg).toInt64) <<< ((32 : Int32).toInt64 &&& 63)) ||| (((v47 (z4 + 2).toNatClampNeg).toInt64) &&& 4294967295)) (v47 (z4 + 3).toNatClampNeg) (v47 (z4 + 4).toNatClampNeg) h) gL_law_L_planWord (by rfl) rfl (by decide +kernel) ⟨⟨(Nat.le_of_ble_eq_true rfl), (Nat.le_of_ble_eq_true rfl)⟩, (Nat.le_trans (show k0 + 3 ≤ k0 + rc by omega) hk.1), (Nat.le_trans (show n0 + 18 ≤ n0 + rs by omega) hk.2)⟩ (Nat.le_of_ble_eq_true rfl) (sb_zr (sb_of [0, 1, 2, 3, 4, 5, 6, 7, 18, 19, 20, 21, 22, 23, 24, 41, 8, 9, 10, 11, 12, 13, 14, 15, 16, 17, 25, 26, 27, 28, 29, 30, 31, 32, 33, 34, 35, 36, 37, 38, 39, 40] rfl rfl)) rfl dL_law_2038 (fun v X1 hp => ?_)
    obtain ⟨r583, w584, w585, w586, w587, w588, w589, w590, w591, w592, w593, w594, rfl, rfl, h⟩ := hp
    have hk : k0 + 3 + mc595 ≤ (rm_L_law).cells ∧ n0 + 18 + ms596 ≤ (rm_L_law).slots := ⟨Nat.le_trans (show k0 + 3 + mc595 ≤ k0 + rc by omega) hk.1, Nat.le_trans (show n0 + 18 + ms596 ≤ n0 + rs by omega) hk.2⟩
    refine xw_X (sb_rz (sb_of [0, 1, 2, 3, 4, 5, 6, 7, 16, 17, 18, 19, 20, 21, 22, 23, 24, 25, 8, 9, 10, 11, 12, 13, 14, 26, 27, 28, 29, 30, 31, 32, 33, 34, 35, 36, 37, 38, 39, 40, 41, 15] rfl rfl)) (show ww x (W_L_law (xg x) a0 a1 a2 a3 a4 a5 a6 a7 a8 a9 a10 a11 a12 a13 a14 a15 a16 a17 a18 a19 a20 a21 a22 a23 a24 a25 a26 a27 a28 a29 a30 a31 a32 a33 a34 a35 a36 a37 a38 a39 ab v0 v1 w584 w585 w586 v5 v6 v7 v8 v9 v10 w587 w588 w589 w590 w591 w592 w593 v18 v19 v20 v21 v22 v23 v24 v25 v26 v27 v28 v29 v30 v31 v32 v33 v34 v35 v36 v37 v38 v39 v40 v41 v42 v43 w594 v46 v47 ++ ZP (xg x) a39 v45) [(0, .ref ab), (1, .ref a0), (2, .ref a27), (3, .ref a38), (4, .int z4)] (k0 + 3) (n0 + 18) 2041 [.int r583] from ?_)
    refine xw_istore hf (pc := 2041) dL_law_2041 [(5, .int r583), (0, .ref ab), (1, .ref a0), (2, .ref a27), (3, .ref a38), (4, .int z4)] hn (by decide) rfl ?_
    refine xw_aload_n hf (pc := 2043) dL_law_2043 rfl 3 rfl ?_
    refine xw_aload_n hf (pc := 2044) dL_law_2044 rfl 1 rfl ?_
    refine xw_iload hf (pc := 2045) dL_law_2045 5 rfl ?_
    refine xw_iconst hf (pc := 2047) dL_law_2047 (v := 1) (by decide) ?_
    refine xw_iadd hf (pc := 2048) dL_law_2048 ?_
    refine xw_sald hf hX dL_law_2049 h.1 ?_
    have h := h.2
    refine xw_i2l hf (pc := 2050) dL_law_2050 ?_
    refine xw_bipush hf (pc := 2051) dL_law_2051 (v := 32) (by decide) ?_
    refine xw_lshl hf (pc := 2053) dL_law_2053 ?_
    refine xw_aload_n hf (pc := 2054) dL_law_2054 rfl 1 rfl ?_
    refine xw_iload hf (pc := 2055) dL_law_2055 5 rfl ?_
    refine xw_iconst hf (pc := 2057) dL_law_2057 (v := 2) (by decide) ?_
    refine xw_iadd hf (pc := 2058) dL_law_2058 ?_
    refine xw_sald hf hX dL_law_2059 h.1 ?_
    have h := h.2
    refine xw_i2l hf (pc := 2060) dL_law_2060 ?_
    refine xw_ldc2 hf (pc := 2061) dL_law_2061 mw_L_law_0 ?_
    refine xw_land hf (pc := 2064) dL_law_2064 ?_
    refine xw_lor hf (pc := 2065) dL_law_2065 ?_
    refine xw_aload_n hf (pc := 2066) dL_law_2066 rfl 1 rfl ?_
    refine xw_iload hf (pc := 2067) dL_law_2067 5 rfl ?_
    refine xw_iconst hf (pc := 2069) dL_law_2069 (v := 3) (by decide) ?_
    refine xw_iadd hf (pc := 2070) dL_law_2070 ?_
    refine xw_sald hf hX dL_law_2071 h.1 ?_
    have h := h.2
    refine xw_aload_n hf (pc := 2072) dL_law_2072 rfl 1 rfl ?_
    refine xw_iload hf (pc := 2073) dL_law_2073 5 rfl ?_
    refine xw_iconst hf (pc := 2075) dL_law_2075 (v := 4) (by decide) ?_
    refine xw_iadd hf (pc := 2076) dL_law_2076 ?_
    refine xw_sald hf hX dL_law_2077 h.1 ?_
    have h := h.2
    refine xw_callV hf (pc := 2078) (nA := 3) (Xr := [(a0, .inr (8, [.ref a1, .ref a8, .ref a13, .ref a18, .ref a25])), (a1, .inr (2, [.ref a2, .ref a4, .ref a6])), (a2, .inr (7, [.ref a3, .int v0])), (a3, .inl (gJ (xg x), 60, .inr (.inl v1))), (a4, .inr (7, [.ref a5, .int w584])), (a5, .inl (gJ (xg x), 60, .inr (.inl w585))), (a6, .inr (3, [.ref a7])), (a7, .inl (gI (xg x), 32, .inl w586)), (a8, .inr (6, [.ref a9, .ref a11, .ref a12])), (a9, .inr (3, [.ref a10])), (a10, .inl (gI (xg x), 32, .inl v5)), (a11, .inl (gI (xg x), 32, .inl v6)), (a12, .inl (gI (xg x), 32, .inl v7)), (a13, .inr (1, [.ref a39, .ref a14, .ref a16, .int v8])), (a14, .inr (3, [.ref a15])), (a15, .inl (gI (xg x), 32, .inl v9)), (a16, .inr (3, [.ref a17])), (a17, .inl (gI (xg x), 32, .inl v10)), (a18, .inr (4, [.ref a19, .ref a21, .ref a23, .int w587, .int w588])), (a19, .inr (3, [.ref a20])), (a20, .inl (gI (xg x), 32, .inl w589)), (a21, .inr (7, [.ref a22, .int w590])), (a22, .inl (gJ (xg x), 60, .inr (.inl w591))), (a23, .inr (7, [.ref a24, .int w592])), (a24, .inl (gJ (xg x), 60, .inr (.inl w593))), (a25, .inr (3, [.ref a26])), (a26, .inl (gI (xg x), 32, .inl v18)), (a29, .inl (gI (xg x), 27, .inl v26)), (a30, .inl (gI (xg x), 27, .inl v27)), (a31, .inl (gI (xg x), 27, .inl v28)), (a32, .inl (gI (xg x), 27, .inl v29)), (v30, .inl (gJ (xg x), v31, .inr (.inl v32))), (v33, .inl (gI (xg x), v34, .inl v35)), (v36, .inl (gZ (xg x), v37, .inl v38)), (a38, .inl (gJ (xg x), 1, .inr (.inl w594)))] ++ ZP (xg x) a39 v45) (rest := []) (T := TX9) (c_X9_planWord (xl x) (xg x) a27 a28 a33 a34 a35 a36 a37 a29 a30 a31 a32 v30 v33 v36 v19 v20 v21 v22 v23 v24 v25 v39 v40 v41 v42 v43 ((((v47 (z4 + 1).toNatClampNeg).toInt64) <<< ((32 : Int32).toInt64 &&& 63)) ||| (((v47 (z4 + 2).toNatClampNeg).toInt64) &&& 4294967295)) (v47 (z4 + 3).toNatClampNeg) (v47 (z4 + 4).toNatClampNeg) h) gL_law_X9_planWord (by rfl) rfl rfl (by decide +kernel) ⟨⟨(Nat.le_of_ble_eq_true rfl), (Nat.le_of_ble_eq_true rfl)⟩, (Nat.le_trans (Nat.le_add_right _ _) hk.1), (Nat.le_trans (Nat.le_add_right _ _) hk.2)⟩ (Nat.le_of_ble_eq_true rfl) rfl rfl (sb_zr (sb_of [27, 28, 36, 37, 38, 39, 40, 0, 1, 2, 3, 4, 5, 6, 7, 8, 9, 10, 11, 12, 13, 14, 15, 16, 17, 18, 19, 20, 21, 22, 23, 24, 25, 26, 29, 30, 31, 32, 33, 34, 35, 41] rfl rfl)) rfl dL_law_2078 (fun v X1 hp => ?_)
    obtain ⟨r597, w598, w599, w600, w601, w602, w603, w604, w605, rfl, rfl, h⟩ := hp
    refine xw_X (sb_rz (sb_of [7, 8, 9, 10, 11, 12, 13, 14, 15, 16, 17, 18, 19, 20, 21, 22, 23, 24, 25, 26, 27, 28, 29, 30, 31, 32, 33, 0, 1, 34, 35, 36, 37, 38, 39, 40, 2, 3, 4, 5, 6, 41] rfl rfl)) (show ww x (W_L_law (xg x) a0 a1 a2 a3 a4 a5 a6 a7 a8 a9 a10 a11 a12 a13 a14 a15 a16 a17 a18 a19 a20 a21 a22 a23 a24 a25 a26 a27 a28 a29 a30 a31 a32 a33 a34 a35 a36 a37 a38 a39 ab v0 v1 w584 w585 w586 v5 v6 v7 v8 v9 v10 w587 w588 w589 w590 w591 w592 w593 v18 w598 v20 v21 v22 w599 w600 v25 v26 v27 v28 v29 v30 v31 v32 v33 v34 v35 v36 v37 v38 w601 w602 w603 w604 w605 w594 v46 v47 ++ ZP (xg x) a39 v45) [(5, .int r583), (0, .ref ab), (1, .ref a0), (2, .ref a27), (3, .ref a38), (4, .int z4)] (k0 + 3) (n0 + 18) 2081 [.long r597] from ?_)
    refine xw_lstore hf (pc := 2081) dL_law_2081 [(6, .long r597), (5, .int r583), (0, .ref ab), (1, .ref a0), (2, .ref a27), (3, .ref a38), (4, .int z4)] hn (by decide) rfl ?_
    refine xw_aload_n hf (pc := 2083) dL_law_2083 rfl 4 rfl ?_
    refine xw_callV hf (pc := 2084) (nA := 0) (Xr := [(a0, .inr (8, [.ref a1, .ref a8, .ref a13, .ref a18, .ref a25])), (a1, .inr (2, [.ref a2, .ref a4, .ref a6])), (a2, .inr (7, [.ref a3, .int v0])), (a3, .inl (gJ (xg x), 60, .inr (.inl v1))), (a4, .inr (7, [.ref a5, .int w584])), (a5, .inl (gJ (xg x), 60, .inr (.inl w585))), (a6, .inr (3, [.ref a7])), (a7, .inl (gI (xg x), 32, .inl w586)), (a8, .inr (6, [.ref a9, .ref a11, .ref a12])), (a9, .inr (3, [.ref a10])), (a10, .inl (gI (xg x), 32, .inl v5)), (a11, .inl (gI (xg x), 32, .inl v6)), (a12, .inl (gI (xg x), 32, .inl v7)), (a13, .inr (1, [.ref a39, .ref a14, .ref a16, .int v8])), (a14, .inr (3, [.ref a15])), (a15, .inl (gI (xg x), 32, .inl v9)), (a16, .inr (3, [.ref a17])), (a17, .inl (gI (xg x), 32, .inl v10)), (a18, .inr (4, [.ref a19, .ref a21, .ref a23, .int w587, .int w588])), (a19, .inr (3, [.ref a20])), (a20, .inl (gI (xg x), 32, .inl w589)), (a21, .inr (7, [.ref a22, .int w590])), (a22, .inl (gJ (xg x), 60, .inr (.inl w591))), (a23, .inr (7, [.ref a24, .int w592])), (a24, .inl (gJ (xg x), 60, .inr (.inl w593))), (a25, .inr (3, [.ref a26])), (a26, .inl (gI (xg x), 32, .inl v18)), (a28, .inl (gJ (xg x), 60, .inr (.inl v25))), (a29, .inl (gI (xg x), 27, .inl v26)), (a30, .inl (gI (xg x), 27, .inl v27)), (a31, .inl (gI (xg x), 27, .inl v28)), (a32, .inl (gI (xg x), 27, .inl v29)), (v30, .inl (gJ (xg x), v31, .inr (.inl v32))), (v33, .inl (gI (xg x), v34, .inl v35)), (v36, .inl (gZ (xg x), v37, .inl v38)), (a33, .inl (gI (xg x), 12, .inl w601)), (a34, .inl (gI (xg x), 27, .inl w602)), (a35, .inl (gI (xg x), 27, .inl w603)), (a36, .inl (gI (xg x), 60, .inl w604)), (a37, .inl (gI (xg x), 3, .inl w605)), (a38, .inl (gJ (xg x), 1, .inr (.inl w594)))] ++ ZP (xg x) a39 v45) (rest := []) (T := TX9) (c_X9_thrown (xl x) (xg x) a27 a28 a29 a30 a31 a32 v30 v33 v36 a33 a34 a35 a36 a37 w598 v20 v21 v22 w599 w600 h) gL_law_X9_thrown (by rfl) rfl rfl (by decide +kernel) ⟨⟨(Nat.le_of_ble_eq_true rfl), (Nat.le_of_ble_eq_true rfl)⟩, (Nat.le_trans (Nat.le_add_right _ _) hk.1), (Nat.le_trans (Nat.le_add_right _ _) hk.2)⟩ (Nat.le_of_ble_eq_true rfl) rfl rfl (sb_zr (sb_of [27, 0, 1, 2, 3, 4, 5, 6, 7, 8, 9, 10, 11, 12, 13, 14, 15, 16, 17, 18, 19, 20, 21, 22, 23, 24, 25, 26, 28, 29, 30, 31, 32, 33, 34, 35, 36, 37, 38, 39, 40, 41] rfl rfl)) rfl dL_law_2084 (fun v X1 hp => ?_)
    obtain ⟨r606, rfl, rfl, h⟩ := hp
    refine xw_X (sb_rz (sb_of [1, 2, 3, 4, 5, 6, 7, 8, 9, 10, 11, 12, 13, 14, 15, 16, 17, 18, 19, 20, 21, 22, 23, 24, 25, 26, 27, 0, 28, 29, 30, 31, 32, 33, 34, 35, 36, 37, 38, 39, 40, 41] rfl rfl)) (show ww x (W_L_law (xg x) a0 a1 a2 a3 a4 a5 a6 a7 a8 a9 a10 a11 a12 a13 a14 a15 a16 a17 a18 a19 a20 a21 a22 a23 a24 a25 a26 a27 a28 a29 a30 a31 a32 a33 a34 a35 a36 a37 a38 a39 ab v0 v1 w584 w585 w586 v5 v6 v7 v8 v9 v10 w587 w588 w589 w590 w591 w592 w593 v18 w598 v20 v21 v22 w599 w600 v25 v26 v27 v28 v29 v30 v31 v32 v33 v34 v35 v36 v37 v38 w601 w602 w603 w604 w605 w594 v46 v47 ++ ZP (xg x) a39 v45) [(6, .long r597), (5, .int r583), (0, .ref ab), (1, .ref a0), (2, .ref a27), (3, .ref a38), (4, .int z4)] (k0 + 3) (n0 + 18) 2087 [.int r606] from ?_)
    refine xw_iload hf (pc := 2087) dL_law_2087 1 rfl ?_
    refine xw_icmp_eq hf (pc := 2089) dL_law_2089 (tgt := 2094) rfl ⟨fun c => ?_, fun c => ?_⟩
    · have h := h.1 c
      refine xw_iload hf (pc := 2094) dL_law_2094 1 rfl ?_
      refine xw_if_ne hf (pc := 2096) dL_law_2096 (c := r583 = 0) Iff.rfl (tgt := 2110) rfl ⟨fun c => ?_, fun c => ?_⟩
      · have h := h.1 c
        refine xw_aload_n hf (pc := 2099) dL_law_2099 rfl 5 rfl ?_
        refine xw_iconst hf (pc := 2100) dL_law_2100 (v := 0) (by decide) ?_
        refine xw_lald hf (pc := 2101) dL_law_2101 41 rfl h.1 ?_
        have h := h.2
        refine xw_lload hf (pc := 2102) dL_law_2102 0 rfl ?_
        refine xw_lcmp hf (pc := 2104) dL_law_2104 ?_
        refine xw_if_eq hf (pc := 2105) dL_law_2105 (c := (w594 (0 : Int32).toNatClampNeg) = r597) (lc_eq _ _) (tgt := 2110) rfl ⟨fun c => ?_, fun c => ?_⟩
        · have h := h.1 c
          refine xw_goto hf (pc := 2110) dL_law_2110 (tgt := 2681) rfl ?_
          refine xw_L [2, 3, 4, 5, 6] rfl ?_
          exact hK2681 _ _ _ _ hk _ _ _ _ _ _ _ _ _ _ _ _ _ _ _ _ _ _ _ h
        · have h := h.2 c
          refine xw_iconst hf (pc := 2108) dL_law_2108 (v := 0) (by decide) ?_
          exact h.elim
      · have h := h.2 c
        refine xw_goto hf (pc := 2110) dL_law_2110 (tgt := 2681) rfl ?_
        refine xw_L [2, 3, 4, 5, 6] rfl ?_
        exact hK2681 _ _ _ _ hk _ _ _ _ _ _ _ _ _ _ _ _ _ _ _ _ _ _ _ h
    · have h := h.2 c
      refine xw_iconst hf (pc := 2092) dL_law_2092 (v := 0) (by decide) ?_
      exact h.elim
set_option maxHeartbeats 4000000 in
set_option maxRecDepth 100000 in
theorem w_L_law_L2113 {x : Cx} {mc ms : Nat} (hf : fx x (rm_L_law) RL cL_law wsL_law) (hn : xn x = 8) {k0 n0 rc rs : Nat} (hk : k0 + rc ≤ (rm_L_law).cells ∧ n0 + rs ≤ (rm_L_law).slots) (a0 a1 a2 a3 a4 a5 a6 a7 a8 a9 a10 a11 a12 a13 a14 a15 a16 a17 a18 a19 a20 a21 a22 a23 a24 a25 a26 a27 a28 a29 a30 a31 a32 a33 a34 a35 a36 a37 a38 a39 ab : Nat) (z4 : Int32) (v0 : Int32) (v1 : Nat → Int64) (v20 : Int32) (v21 : Int32) (v22 : Int32) (v25 : Nat → Int64) (v46 : Nat) (v47 : Nat → Int32) (v5 : Nat → Int32) (v6 : Nat → Int32) (v7 : Nat → Int32) (v8 : Int32) (v9 : Nat → Int32) (v10 : Nat → Int32) (v18 : Nat → Int32) (v26 : Nat → Int32) (v27 : Nat → Int32) (v28 : Nat → Int32) (v29 : Nat → Int32) (v30 : Nat) (v31 : Nat) (v32 : Nat → Int64) (v33 : Nat) (v34 : Nat) (v35 : Nat → Int32) (v36 : Nat) (v37 : Nat) (v38 : Nat → Int32) (v45 : ZL) {K2681 : Nat → Nat → Int32 → (Nat → Int64) → (Nat → Int32) → Int32 → Int32 → (Nat → Int32) → Int32 → (Nat → Int64) → Int32 → (Nat → Int64) → Int32 → Int32 → Int32 → (Nat → Int32) → (Nat → Int32) → (Nat → Int32) → (Nat → Int32) → (Nat → Int32) → (Nat → Int64) → Prop} (hst : (xl x).stackTraces = false) (hX : sX x ab v46 v47)
    (n : Nat) (v2 : Int32) (v3 : Nat → Int64) (v4 : Nat → Int32) (v11 : Int32) (v12 : Int32) (v13 : Nat → Int32) (v14 : Int32) (v15 : Nat → Int64) (v16 : Int32) (v17 : Nat → Int64) (v19 : Int32) (v23 : Int32) (v24 : Int32) (v39 : Nat → Int32) (v40 : Nat → Int32) (v41 : Nat → Int32) (v42 : Nat → Int32) (v43 : Nat → Int32) (v44 : Nat → Int64) (h : P_L_law_L2113 z4 v0 v1 v20 v21 v22 v25 v46 v47 K2681 n rc rs v2 v3 v4 v11 v12 v13 v14 v15 v16 v17 v19 v23 v24 v39 v40 v41 v42 v43 v44)
    (hK2681 : ∀ (k0 n0 rc rs : Nat), k0 + rc ≤ (rm_L_law).cells ∧ n0 + rs ≤ (rm_L_law).slots → ∀ (uv2 : Int32), ∀ (uv3 : Nat → Int64), ∀ (uv4 : Nat → Int32), ∀ (uv11 : Int32), ∀ (uv12 : Int32), ∀ (uv13 : Nat → Int32), ∀ (uv14 : Int32), ∀ (uv15 : Nat → Int64), ∀ (uv16 : Int32), ∀ (uv17 : Nat → Int64), ∀ (uv19 : Int32), ∀ (uv23 : Int32), ∀ (uv24 : Int32), ∀ (uv39 : Nat → Int32), ∀ (uv40 : Nat → Int32), ∀ (uv41 : Nat → Int32), ∀ (uv42 : Nat → Int32), ∀ (uv43 : Nat → Int32), ∀ (uv44 : Nat → Int64), K2681 rc rs uv2 uv3 uv4 uv11 uv12 uv13 uv14 uv15 uv16 uv17 uv19 uv23 uv24 uv39 uv40 uv41 uv42 uv43 uv44 → ww x (W_L_law (xg x) a0 a1 a2 a3 a4 a5 a6 a7 a8 a9 a10 a11 a12 a13 a14 a15 a16 a17 a18 a19 a20 a21 a22 a23 a24 a25 a26 a27 a28 a29 a30 a31 a32 a33 a34 a35 a36 a37 a38 a39 ab v0 v1 uv2 uv3 uv4 v5 v6 v7 v8 v9 v10 uv11 uv12 uv13 uv14 uv15 uv16 uv17 v18 uv19 v20 v21 v22 uv23 uv24 v25 v26 v27 v28 v29 v30 v31 v32 v33 v34 v35 v36 v37 v38 uv39 uv40 uv41 uv42 uv43 uv44 v46 v47 ++ ZP (xg x) a39 v45) [(0, .ref ab), (1, .ref a0), (2, .ref a27), (3, .ref a38), (4, .int z4)] k0 n0 2681 []) :
    ww x (W_L_law (xg x) a0 a1 a2 a3 a4 a5 a6 a7 a8 a9 a10 a11 a12 a13 a14 a15 a16 a17 a18 a19 a20 a21 a22 a23 a24 a25 a26 a27 a28 a29 a30 a31 a32 a33 a34 a35 a36 a37 a38 a39 ab v0 v1 v2 v3 v4 v5 v6 v7 v8 v9 v10 v11 v12 v13 v14 v15 v16 v17 v18 v19 v20 v21 v22 v23 v24 v25 v26 v27 v28 v29 v30 v31 v32 v33 v34 v35 v36 v37 v38 v39 v40 v41 v42 v43 v44 v46 v47 ++ ZP (xg x) a39 v45) [(0, .ref ab), (1, .ref a0), (2, .ref a27), (3, .ref a38), (4, .int z4)] k0 n0 2113 [] := by
  induction n generalizing k0 n0 rc rs v2 v3 v4 v11 v12 v13 v14 v15 v16 v17 v19 v23 v24 v39 v40 v41 v42 v43 v44 with
  | zero => exact h.elim
  | succ n ih =>
    unfold P_L_law_L2113 at h
    refine xw_aload_n hf (pc := 2113) dL_law_2113 rfl 1 rfl ?_
    refine xw_aload_n hf (pc := 2114) dL_law_2114 rfl 0 rfl ?_
    refine xw_iload hf (pc := 2115) dL_law_2115 4 rfl ?_
    refine xw_iconst hf (pc := 2117) dL_law_2117 (v := 1) (by decide) ?_
    refine xw_iadd hf (pc := 2118) dL_law_2118 ?_
    refine xw_sald hf hX dL_law_2119 h.1 ?_
    have h := h.2
    refine xw_i2l hf (pc := 2120) dL_law_2120 ?_
    refine xw_bipush hf (pc := 2121) dL_law_2121 (v := 32) (by decide) ?_
    refine xw_lshl hf (pc := 2123) dL_law_2123 ?_
    refine xw_aload_n hf (pc := 2124) dL_law_2124 rfl 0 rfl ?_
    refine xw_iload hf (pc := 2125) dL_law_2125 4 rfl ?_
    refine xw_iconst hf (pc := 2127) dL_law_2127 (v := 2) (by decide) ?_
    refine xw_iadd hf (pc := 2128) dL_law_2128 ?_
    refine xw_sald hf hX dL_law_2129 h.1 ?_
    have h := h.2
    refine xw_i2l hf (pc := 2130) dL_law_2130 ?_
    refine xw_ldc2 hf (pc := 2131) dL_law_2131 mw_L_law_0 ?_
    refine xw_land hf (pc := 2134) dL_law_2134 ?_
    refine xw_lor hf (pc := 2135) dL_law_2135 ?_
    refine xw_aload_n hf (pc := 2136) dL_law_2136 rfl 0 rfl ?_
    refine xw_iload hf (pc := 2137) dL_law_2137 4 rfl ?_
    refine xw_iconst hf (pc := 2139) dL_law_2139 (v := 3) (by decide) ?_
    refine xw_iadd hf (pc := 2140) dL_law_2140 ?_
    refine xw_sald hf hX dL_law_2141 h.1 ?_
    have h := h.2
    refine xw_aload_n hf (pc := 2142) dL_law_2142 rfl 3 rfl ?_
    obtain ⟨mc642, ms643, ⟨hb1, hb2⟩, h⟩ := h
    refine xw_callSW hf (pc := 2143) (nA := 4) (Xr := [(a8, .inr (6, [.ref a9, .ref a11, .ref a12])), (a9, .inr (3, [.ref a10])), (a10, .inl (gI (xg x), 32, .inl v5)), (a11, .inl (gI (xg x), 32, .inl v6)), (a12, .inl (gI (xg x), 32, .inl v7)), (a13, .inr (1, [.ref a39, .ref a14, .ref a16, .int v8])), (a14, .inr (3, [.ref a15])), (a15, .inl (gI (xg x), 32, .inl v9)), (a16, .inr (3, [.ref a17])), (a17, .inl (gI (xg x), 32, .inl v10)), (a25, .inr (3, [.ref a26])), (a26, .inl (gI (xg x), 32, .inl v18)), (a27, .inr (9, [.int v19, .ref a28, .int v20, .ref a29, .ref a30, .ref a31, .ref a32, .ref v30, .ref v33, .ref v36, .int v21, .int v22, .ref a33, .int v23, .ref a34, .ref a35, .ref a36, .ref a37, .int v24])), (a28, .inl (gJ (xg x), 60, .inr (.inl v25))), (a29, .inl (gI (xg x), 27, .inl v26)), (a30, .inl (gI (xg x), 27, .inl v27)), (a31, .inl (gI (xg x), 27, .inl v28)), (a32, .inl (gI (xg x), 27, .inl v29)), (v30, .inl (gJ (xg x), v31, .inr (.inl v32))), (v33, .inl (gI (xg x), v34, .inl v35)), (v36, .inl (gZ (xg x), v37, .inl v38)), (a33, .inl (gI (xg x), 12, .inl v39)), (a34, .inl (gI (xg x), 27, .inl v40)), (a35, .inl (gI (xg x), 27, .inl v41)), (a36, .inl (gI (xg x), 60, .inl v42)), (a37, .inl (gI (xg x), 3, .inl v43))] ++ ZP (xg x) a39 v45) (rest := []) (c_L_leftoverCount (xl x) (xg x) hst a0 a1 a2 a3 a4 a5 a6 a7 a18 a19 a20 a21 a22 a23 a24 a38 a8 a13 a25 v0 v1 v2 v3 v4 v11 v12 v13 v14 v15 v16 v17 v44 ((((v47 (z4 + 1).toNatClampNeg).toInt64) <<< ((32 : Int32).toInt64 &&& 63)) ||| (((v47 (z4 + 2).toNatClampNeg).toInt64) &&& 4294967295)) (v47 (z4 + 3).toNatClampNeg) h) gL_law_L_leftoverCount (by rfl) rfl (by decide +kernel) ⟨⟨(Nat.le_of_ble_eq_true rfl), (Nat.le_of_ble_eq_true rfl)⟩, (Nat.le_trans (show k0 + 2 ≤ k0 + rc by omega) hk.1), (Nat.le_trans (show n0 + 12 ≤ n0 + rs by omega) hk.2)⟩ (Nat.le_of_ble_eq_true rfl) (sb_zr (sb_of [0, 1, 2, 3, 4, 5, 6, 7, 18, 19, 20, 21, 22, 23, 24, 41, 8, 9, 10, 11, 12, 13, 14, 15, 16, 17, 25, 26, 27, 28, 29, 30, 31, 32, 33, 34, 35, 36, 37, 38, 39, 40] rfl rfl)) rfl dL_law_2143 (fun v X1 hp => ?_)
    obtain ⟨r630, w631, w632, w633, w634, w635, w636, w637, w638, w639, w640, w641, rfl, rfl, h⟩ := hp
    have hk : k0 + 2 + mc642 ≤ (rm_L_law).cells ∧ n0 + 12 + ms643 ≤ (rm_L_law).slots := ⟨Nat.le_trans (show k0 + 2 + mc642 ≤ k0 + rc by omega) hk.1, Nat.le_trans (show n0 + 12 + ms643 ≤ n0 + rs by omega) hk.2⟩
    refine xw_X (sb_rz (sb_of [0, 1, 2, 3, 4, 5, 6, 7, 16, 17, 18, 19, 20, 21, 22, 23, 24, 25, 8, 9, 10, 11, 12, 13, 14, 26, 27, 28, 29, 30, 31, 32, 33, 34, 35, 36, 37, 38, 39, 40, 41, 15] rfl rfl)) (show ww x (W_L_law (xg x) a0 a1 a2 a3 a4 a5 a6 a7 a8 a9 a10 a11 a12 a13 a14 a15 a16 a17 a18 a19 a20 a21 a22 a23 a24 a25 a26 a27 a28 a29 a30 a31 a32 a33 a34 a35 a36 a37 a38 a39 ab v0 v1 w631 w632 w633 v5 v6 v7 v8 v9 v10 w634 w635 w636 w637 w638 w639 w640 v18 v19 v20 v21 v22 v23 v24 v25 v26 v27 v28 v29 v30 v31 v32 v33 v34 v35 v36 v37 v38 v39 v40 v41 v42 v43 w641 v46 v47 ++ ZP (xg x) a39 v45) [(0, .ref ab), (1, .ref a0), (2, .ref a27), (3, .ref a38), (4, .int z4)] (k0 + 2) (n0 + 12) 2146 [.int r630] from ?_)
    refine xw_istore hf (pc := 2146) dL_law_2146 [(5, .int r630), (0, .ref ab), (1, .ref a0), (2, .ref a27), (3, .ref a38), (4, .int z4)] hn (by decide) rfl ?_
    refine xw_aload_n hf (pc := 2148) dL_law_2148 rfl 3 rfl ?_
    refine xw_aload_n hf (pc := 2149) dL_law_2149 rfl 1 rfl ?_
    refine xw_iload hf (pc := 2150) dL_law_2150 5 rfl ?_
    refine xw_iconst hf (pc := 2152) dL_law_2152 (v := 1) (by decide) ?_
    refine xw_iadd hf (pc := 2153) dL_law_2153 ?_
    refine xw_sald hf hX dL_law_2154 h.1 ?_
    have h := h.2
    refine xw_i2l hf (pc := 2155) dL_law_2155 ?_
    refine xw_bipush hf (pc := 2156) dL_law_2156 (v := 32) (by decide) ?_
    refine xw_lshl hf (pc := 2158) dL_law_2158 ?_
    refine xw_aload_n hf (pc := 2159) dL_law_2159 rfl 1 rfl ?_
    refine xw_iload hf (pc := 2160) dL_law_2160 5 rfl ?_
    refine xw_iconst hf (pc := 2162) dL_law_2162 (v := 2) (by decide) ?_
    refine xw_iadd hf (pc := 2163) dL_law_2163 ?_
    refine xw_sald hf hX dL_law_2164 h.1 ?_
    have h := h.2
    refine xw_i2l hf (pc := 2165) dL_law_2165 ?_
    refine xw_ldc2 hf (pc := 2166) dL_law_2166 mw_L_law_0 ?_
    refine xw_land hf (pc := 2169) dL_law_2169 ?_
    refine xw_lor hf (pc := 2170) dL_law_2170 ?_
    refine xw_aload_n hf (pc := 2171) dL_law_2171 rfl 1 rfl ?_
    refine xw_iload hf (pc := 2172) dL_law_2172 5 rfl ?_
    refine xw_iconst hf (pc := 2174) dL_law_2174 (v := 3) (by decide) ?_
    refine xw_iadd hf (pc := 2175) dL_law_2175 ?_
    refine xw_sald hf hX dL_law_2176 h.1 ?_
    have h := h.2
    refine xw_callV hf (pc := 2177) (nA := 2) (Xr := [(a0, .inr (8, [.ref a1, .ref a8, .ref a13, .ref a18, .ref a25])), (a1, .inr (2, [.ref a2, .ref a4, .ref a6])), (a2, .inr (7, [.ref a3, .int v0])), (a3, .inl (gJ (xg x), 60, .inr (.inl v1))), (a4, .inr (7, [.ref a5, .int w631])), (a5, .inl (gJ (xg x), 60, .inr (.inl w632))), (a6, .inr (3, [.ref a7])), (a7, .inl (gI (xg x), 32, .inl w633)), (a8, .inr (6, [.ref a9, .ref a11, .ref a12])), (a9, .inr (3, [.ref a10])), (a10, .inl (gI (xg x), 32, .inl v5)), (a11, .inl (gI (xg x), 32, .inl v6)), (a12, .inl (gI (xg x), 32, .inl v7)), (a13, .inr (1, [.ref a39, .ref a14, .ref a16, .int v8])), (a14, .inr (3, [.ref a15])), (a15, .inl (gI (xg x), 32, .inl v9)), (a16, .inr (3, [.ref a17])), (a17, .inl (gI (xg x), 32, .inl v10)), (a18, .inr (4, [.ref a19, .ref a21, .ref a23, .int w634, .int w635])), (a19, .inr (3, [.ref a20])), (a20, .inl (gI (xg x), 32, .inl w636)), (a21, .inr (7, [.ref a22, .int w637])), (a22, .inl (gJ (xg x), 60, .inr (.inl w638))), (a23, .inr (7, [.ref a24, .int w639])), (a24, .inl (gJ (xg x), 60, .inr (.inl w640))), (a25, .inr (3, [.ref a26])), (a26, .inl (gI (xg x), 32, .inl v18)), (a29, .inl (gI (xg x), 27, .inl v26)), (a30, .inl (gI (xg x), 27, .inl v27)), (a31, .inl (gI (xg x), 27, .inl v28)), (a32, .inl (gI (xg x), 27, .inl v29)), (v30, .inl (gJ (xg x), v31, .inr (.inl v32))), (v33, .inl (gI (xg x), v34, .inl v35)), (v36, .inl (gZ (xg x), v37, .inl v38)), (a38, .inl (gJ (xg x), 1, .inr (.inl w641)))] ++ ZP (xg x) a39 v45) (rest := []) (T := TX9) (c_X9_leftoverCount (xl x) (xg x) a27 a28 a33 a34 a35 a36 a37 a29 a30 a31 a32 v30 v33 v36 v19 v20 v21 v22 v23 v24 v25 v39 v40 v41 v42 v43 ((((v47 (z4 + 1).toNatClampNeg).toInt64) <<< ((32 : Int32).toInt64 &&& 63)) ||| (((v47 (z4 + 2).toNatClampNeg).toInt64) &&& 4294967295)) (v47 (z4 + 3).toNatClampNeg) h) gL_law_X9_leftoverCount (by rfl) rfl rfl (by decide +kernel) ⟨⟨(Nat.le_of_ble_eq_true rfl), (Nat.le_of_ble_eq_true rfl)⟩, (Nat.le_trans (Nat.le_add_right _ _) hk.1), (Nat.le_trans (Nat.le_add_right _ _) hk.2)⟩ (Nat.le_of_ble_eq_true rfl) rfl rfl (sb_zr (sb_of [27, 28, 36, 37, 38, 39, 40, 0, 1, 2, 3, 4, 5, 6, 7, 8, 9, 10, 11, 12, 13, 14, 15, 16, 17, 18, 19, 20, 21, 22, 23, 24, 25, 26, 29, 30, 31, 32, 33, 34, 35, 41] rfl rfl)) rfl dL_law_2177 (fun v X1 hp => ?_)
    obtain ⟨r644, w645, w646, w647, w648, w649, w650, w651, w652, rfl, rfl, h⟩ := hp
    refine xw_X (sb_rz (sb_of [7, 8, 9, 10, 11, 12, 13, 14, 15, 16, 17, 18, 19, 20, 21, 22, 23, 24, 25, 26, 27, 28, 29, 30, 31, 32, 33, 0, 1, 34, 35, 36, 37, 38, 39, 40, 2, 3, 4, 5, 6, 41] rfl rfl)) (show ww x (W_L_law (xg x) a0 a1 a2 a3 a4 a5 a6 a7 a8 a9 a10 a11 a12 a13 a14 a15 a16 a17 a18 a19 a20 a21 a22 a23 a24 a25 a26 a27 a28 a29 a30 a31 a32 a33 a34 a35 a36 a37 a38 a39 ab v0 v1 w631 w632 w633 v5 v6 v7 v8 v9 v10 w634 w635 w636 w637 w638 w639 w640 v18 w645 v20 v21 v22 w646 w647 v25 v26 v27 v28 v29 v30 v31 v32 v33 v34 v35 v36 v37 v38 w648 w649 w650 w651 w652 w641 v46 v47 ++ ZP (xg x) a39 v45) [(5, .int r630), (0, .ref ab), (1, .ref a0), (2, .ref a27), (3, .ref a38), (4, .int z4)] (k0 + 2) (n0 + 12) 2180 [.int r644] from ?_)
    refine xw_istore hf (pc := 2180) dL_law_2180 [(6, .int r644), (5, .int r630), (0, .ref ab), (1, .ref a0), (2, .ref a27), (3, .ref a38), (4, .int z4)] hn (by decide) rfl ?_
    refine xw_aload_n hf (pc := 2182) dL_law_2182 rfl 4 rfl ?_
    refine xw_callV hf (pc := 2183) (nA := 0) (Xr := [(a0, .inr (8, [.ref a1, .ref a8, .ref a13, .ref a18, .ref a25])), (a1, .inr (2, [.ref a2, .ref a4, .ref a6])), (a2, .inr (7, [.ref a3, .int v0])), (a3, .inl (gJ (xg x), 60, .inr (.inl v1))), (a4, .inr (7, [.ref a5, .int w631])), (a5, .inl (gJ (xg x), 60, .inr (.inl w632))), (a6, .inr (3, [.ref a7])), (a7, .inl (gI (xg x), 32, .inl w633)), (a8, .inr (6, [.ref a9, .ref a11, .ref a12])), (a9, .inr (3, [.ref a10])), (a10, .inl (gI (xg x), 32, .inl v5)), (a11, .inl (gI (xg x), 32, .inl v6)), (a12, .inl (gI (xg x), 32, .inl v7)), (a13, .inr (1, [.ref a39, .ref a14, .ref a16, .int v8])), (a14, .inr (3, [.ref a15])), (a15, .inl (gI (xg x), 32, .inl v9)), (a16, .inr (3, [.ref a17])), (a17, .inl (gI (xg x), 32, .inl v10)), (a18, .inr (4, [.ref a19, .ref a21, .ref a23, .int w634, .int w635])), (a19, .inr (3, [.ref a20])), (a20, .inl (gI (xg x), 32, .inl w636)), (a21, .inr (7, [.ref a22, .int w637])), (a22, .inl (gJ (xg x), 60, .inr (.inl w638))), (a23, .inr (7, [.ref a24, .int w639])), (a24, .inl (gJ (xg x), 60, .inr (.inl w640))), (a25, .inr (3, [.ref a26])), (a26, .inl (gI (xg x), 32, .inl v18)), (a28, .inl (gJ (xg x), 60, .inr (.inl v25))), (a29, .inl (gI (xg x), 27, .inl v26)), (a30, .inl (gI (xg x), 27, .inl v27)), (a31, .inl (gI (xg x), 27, .inl v28)), (a32, .inl (gI (xg x), 27, .inl v29)), (v30, .inl (gJ (xg x), v31, .inr (.inl v32))), (v33, .inl (gI (xg x), v34, .inl v35)), (v36, .inl (gZ (xg x), v37, .inl v38)), (a33, .inl (gI (xg x), 12, .inl w648)), (a34, .inl (gI (xg x), 27, .inl w649)), (a35, .inl (gI (xg x), 27, .inl w650)), (a36, .inl (gI (xg x), 60, .inl w651)), (a37, .inl (gI (xg x), 3, .inl w652)), (a38, .inl (gJ (xg x), 1, .inr (.inl w641)))] ++ ZP (xg x) a39 v45) (rest := []) (T := TX9) (c_X9_thrown (xl x) (xg x) a27 a28 a29 a30 a31 a32 v30 v33 v36 a33 a34 a35 a36 a37 w645 v20 v21 v22 w646 w647 h) gL_law_X9_thrown (by rfl) rfl rfl (by decide +kernel) ⟨⟨(Nat.le_of_ble_eq_true rfl), (Nat.le_of_ble_eq_true rfl)⟩, (Nat.le_trans (Nat.le_add_right _ _) hk.1), (Nat.le_trans (Nat.le_add_right _ _) hk.2)⟩ (Nat.le_of_ble_eq_true rfl) rfl rfl (sb_zr (sb_of [27, 0, 1, 2, 3, 4, 5, 6, 7, 8, 9, 10, 11, 12, 13, 14, 15, 16, 17, 18, 19, 20, 21, 22, 23, 24, 25, 26, 28, 29, 30, 31, 32, 33, 34, 35, 36, 37, 38, 39, 40, 41] rfl rfl)) rfl dL_law_2183 (fun v X1 hp => ?_)
    obtain ⟨r653, rfl, rfl, h⟩ := hp
    refine xw_X (sb_rz (sb_of [1, 2, 3, 4, 5, 6, 7, 8, 9, 10, 11, 12, 13, 14, 15, 16, 17, 18, 19, 20, 21, 22, 23, 24, 25, 26, 27, 0, 28, 29, 30, 31, 32, 33, 34, 35, 36, 37, 38, 39, 40, 41] rfl rfl)) (show ww x (W_L_law (xg x) a0 a1 a2 a3 a4 a5 a6 a7 a8 a9 a10 a11 a12 a13 a14 a15 a16 a17 a18 a19 a20 a21 a22 a23 a24 a25 a26 a27 a28 a29 a30 a31 a32 a33 a34 a35 a36 a37 a38 a39 ab v0 v1 w631 w632 w633 v5 v6 v7 v8 v9 v10 w634 w635 w636 w637 w638 w639 w640 v18 w645 v20 v21 v22 w646 w647 v25 v26 v27 v28 v29 v30 v31 v32 v33 v34 v35 v36 v37 v38 w648 w649 w650 w651 w652 w641 v46 v47 ++ ZP (xg x) a39 v45) [(6, .int r644), (5, .int r630), (0, .ref ab), (1, .ref a0), (2, .ref a27), (3, .ref a38), (4, .int z4)] (k0 + 2) (n0 + 12) 2186 [.int r653] from ?_)
    refine xw_iload hf (pc := 2186) dL_law_2186 1 rfl ?_
    refine xw_icmp_eq hf (pc := 2188) dL_law_2188 (tgt := 2193) rfl ⟨fun c => ?_, fun c => ?_⟩
    · have h := h.1 c
      refine xw_iload hf (pc := 2193) dL_law_2193 1 rfl ?_
      refine xw_if_ne hf (pc := 2195) dL_law_2195 (c := r630 = 0) Iff.rfl (tgt := 2210) rfl ⟨fun c => ?_, fun c => ?_⟩
      · have h := h.1 c
        refine xw_aload_n hf (pc := 2198) dL_law_2198 rfl 5 rfl ?_
        refine xw_iconst hf (pc := 2199) dL_law_2199 (v := 0) (by decide) ?_
        refine xw_lald hf (pc := 2200) dL_law_2200 41 rfl h.1 ?_
        have h := h.2
        refine xw_iload hf (pc := 2201) dL_law_2201 0 rfl ?_
        refine xw_i2l hf (pc := 2203) dL_law_2203 ?_
        refine xw_lcmp hf (pc := 2204) dL_law_2204 ?_
        refine xw_if_eq hf (pc := 2205) dL_law_2205 (c := (w641 (0 : Int32).toNatClampNeg) = r644.toInt64) (lc_eq _ _) (tgt := 2210) rfl ⟨fun c => ?_, fun c => ?_⟩
        · have h := h.1 c
          refine xw_goto hf (pc := 2210) dL_law_2210 (tgt := 2681) rfl ?_
          refine xw_L [2, 3, 4, 5, 6] rfl ?_
          exact hK2681 _ _ _ _ hk _ _ _ _ _ _ _ _ _ _ _ _ _ _ _ _ _ _ _ h
        · have h := h.2 c
          refine xw_iconst hf (pc := 2208) dL_law_2208 (v := 0) (by decide) ?_
          exact h.elim
      · have h := h.2 c
        refine xw_goto hf (pc := 2210) dL_law_2210 (tgt := 2681) rfl ?_
        refine xw_L [2, 3, 4, 5, 6] rfl ?_
        exact hK2681 _ _ _ _ hk _ _ _ _ _ _ _ _ _ _ _ _ _ _ _ _ _ _ _ h
    · have h := h.2 c
      refine xw_iconst hf (pc := 2191) dL_law_2191 (v := 0) (by decide) ?_
      exact h.elim
set_option maxHeartbeats 4000000 in
set_option maxRecDepth 100000 in
theorem w_L_law_L2213 {x : Cx} {mc ms : Nat} (hf : fx x (rm_L_law) RL cL_law wsL_law) (hn : xn x = 8) {k0 n0 rc rs : Nat} (hk : k0 + rc ≤ (rm_L_law).cells ∧ n0 + rs ≤ (rm_L_law).slots) (a0 a1 a2 a3 a4 a5 a6 a7 a8 a9 a10 a11 a12 a13 a14 a15 a16 a17 a18 a19 a20 a21 a22 a23 a24 a25 a26 a27 a28 a29 a30 a31 a32 a33 a34 a35 a36 a37 a38 a39 ab : Nat) (z4 : Int32) (v0 : Int32) (v1 : Nat → Int64) (v20 : Int32) (v25 : Nat → Int64) (v46 : Nat) (v47 : Nat → Int32) (v6 : Nat → Int32) (v7 : Nat → Int32) (v18 : Nat → Int32) (v27 : Nat → Int32) {K2681 : Nat → Nat → Int32 → (Nat → Int64) → (Nat → Int32) → (Nat → Int32) → Int32 → (Nat → Int32) → (Nat → Int32) → Int32 → Int32 → (Nat → Int32) → Int32 → (Nat → Int64) → Int32 → (Nat → Int64) → Int32 → Int32 → Int32 → Int32 → Int32 → (Nat → Int32) → (Nat → Int32) → (Nat → Int32) → Nat → Nat → (Nat → Int64) → Nat → Nat → (Nat → Int32) → Nat → Nat → (Nat → Int32) → (Nat → Int32) → (Nat → Int32) → (Nat → Int32) → (Nat → Int32) → (Nat → Int32) → (Nat → Int64) → ZL → Prop} (hst : (xl x).stackTraces = false) (hX : sX x ab v46 v47)
    (n : Nat) (v2 : Int32) (v3 : Nat → Int64) (v4 : Nat → Int32) (v5 : Nat → Int32) (v8 : Int32) (v9 : Nat → Int32) (v10 : Nat → Int32) (v11 : Int32) (v12 : Int32) (v13 : Nat → Int32) (v14 : Int32) (v15 : Nat → Int64) (v16 : Int32) (v17 : Nat → Int64) (v19 : Int32) (v21 : Int32) (v22 : Int32) (v23 : Int32) (v24 : Int32) (v26 : Nat → Int32) (v28 : Nat → Int32) (v29 : Nat → Int32) (v30 : Nat) (v31 : Nat) (v32 : Nat → Int64) (v33 : Nat) (v34 : Nat) (v35 : Nat → Int32) (v36 : Nat) (v37 : Nat) (v38 : Nat → Int32) (v39 : Nat → Int32) (v40 : Nat → Int32) (v41 : Nat → Int32) (v42 : Nat → Int32) (v43 : Nat → Int32) (v44 : Nat → Int64) (v45 : ZL) (h : P_L_law_L2213 z4 v0 v1 v20 v25 v46 v47 K2681 n rc rs v2 v3 v4 v5 v8 v9 v10 v11 v12 v13 v14 v15 v16 v17 v19 v21 v22 v23 v24 v26 v28 v29 v30 v31 v32 v33 v34 v35 v36 v37 v38 v39 v40 v41 v42 v43 v44 v45)
    (hK2681 : ∀ (k0 n0 rc rs : Nat), k0 + rc ≤ (rm_L_law).cells ∧ n0 + rs ≤ (rm_L_law).slots → ∀ (uv2 : Int32), ∀ (uv3 : Nat → Int64), ∀ (uv4 : Nat → Int32), ∀ (uv5 : Nat → Int32), ∀ (uv8 : Int32), ∀ (uv9 : Nat → Int32), ∀ (uv10 : Nat → Int32), ∀ (uv11 : Int32), ∀ (uv12 : Int32), ∀ (uv13 : Nat → Int32), ∀ (uv14 : Int32), ∀ (uv15 : Nat → Int64), ∀ (uv16 : Int32), ∀ (uv17 : Nat → Int64), ∀ (uv19 : Int32), ∀ (uv21 : Int32), ∀ (uv22 : Int32), ∀ (uv23 : Int32), ∀ (uv24 : Int32), ∀ (uv26 : Nat → Int32), ∀ (uv28 : Nat → Int32), ∀ (uv29 : Nat → Int32), ∀ (uv30 : Nat), ∀ (uv31 : Nat), ∀ (uv32 : Nat → Int64), ∀ (uv33 : Nat), ∀ (uv34 : Nat), ∀ (uv35 : Nat → Int32), ∀ (uv36 : Nat), ∀ (uv37 : Nat), ∀ (uv38 : Nat → Int32), ∀ (uv39 : Nat → Int32), ∀ (uv40 : Nat → Int32), ∀ (uv41 : Nat → Int32), ∀ (uv42 : Nat → Int32), ∀ (uv43 : Nat → Int32), ∀ (uv44 : Nat → Int64), ∀ (uv45 : ZL), K2681 rc rs uv2 uv3 uv4 uv5 uv8 uv9 uv10 uv11 uv12 uv13 uv14 uv15 uv16 uv17 uv19 uv21 uv22 uv23 uv24 uv26 uv28 uv29 uv30 uv31 uv32 uv33 uv34 uv35 uv36 uv37 uv38 uv39 uv40 uv41 uv42 uv43 uv44 uv45 → ww x (W_L_law (xg x) a0 a1 a2 a3 a4 a5 a6 a7 a8 a9 a10 a11 a12 a13 a14 a15 a16 a17 a18 a19 a20 a21 a22 a23 a24 a25 a26 a27 a28 a29 a30 a31 a32 a33 a34 a35 a36 a37 a38 a39 ab v0 v1 uv2 uv3 uv4 uv5 v6 v7 uv8 uv9 uv10 uv11 uv12 uv13 uv14 uv15 uv16 uv17 v18 uv19 v20 uv21 uv22 uv23 uv24 v25 uv26 v27 uv28 uv29 uv30 uv31 uv32 uv33 uv34 uv35 uv36 uv37 uv38 uv39 uv40 uv41 uv42 uv43 uv44 v46 v47 ++ ZP (xg x) a39 uv45) [(0, .ref ab), (1, .ref a0), (2, .ref a27), (3, .ref a38), (4, .int z4)] k0 n0 2681 []) :
    ww x (W_L_law (xg x) a0 a1 a2 a3 a4 a5 a6 a7 a8 a9 a10 a11 a12 a13 a14 a15 a16 a17 a18 a19 a20 a21 a22 a23 a24 a25 a26 a27 a28 a29 a30 a31 a32 a33 a34 a35 a36 a37 a38 a39 ab v0 v1 v2 v3 v4 v5 v6 v7 v8 v9 v10 v11 v12 v13 v14 v15 v16 v17 v18 v19 v20 v21 v22 v23 v24 v25 v26 v27 v28 v29 v30 v31 v32 v33 v34 v35 v36 v37 v38 v39 v40 v41 v42 v43 v44 v46 v47 ++ ZP (xg x) a39 v45) [(0, .ref ab), (1, .ref a0), (2, .ref a27), (3, .ref a38), (4, .int z4)] k0 n0 2213 [] := by
  induction n generalizing k0 n0 rc rs v2 v3 v4 v5 v8 v9 v10 v11 v12 v13 v14 v15 v16 v17 v19 v21 v22 v23 v24 v26 v28 v29 v30 v31 v32 v33 v34 v35 v36 v37 v38 v39 v40 v41 v42 v43 v44 v45 with
  | zero => exact h.elim
  | succ n ih =>
    unfold P_L_law_L2213 at h
    refine xw_aload_n hf (pc := 2213) dL_law_2213 rfl 1 rfl ?_
    refine xw_aload_n hf (pc := 2214) dL_law_2214 rfl 0 rfl ?_
    refine xw_iload hf (pc := 2215) dL_law_2215 4 rfl ?_
    refine xw_iconst hf (pc := 2217) dL_law_2217 (v := 1) (by decide) ?_
    refine xw_iadd hf (pc := 2218) dL_law_2218 ?_
    refine xw_sald hf hX dL_law_2219 h.1 ?_
    have h := h.2
    refine xw_i2l hf (pc := 2220) dL_law_2220 ?_
    refine xw_bipush hf (pc := 2221) dL_law_2221 (v := 32) (by decide) ?_
    refine xw_lshl hf (pc := 2223) dL_law_2223 ?_
    refine xw_aload_n hf (pc := 2224) dL_law_2224 rfl 0 rfl ?_
    refine xw_iload hf (pc := 2225) dL_law_2225 4 rfl ?_
    refine xw_iconst hf (pc := 2227) dL_law_2227 (v := 2) (by decide) ?_
    refine xw_iadd hf (pc := 2228) dL_law_2228 ?_
    refine xw_sald hf hX dL_law_2229 h.1 ?_
    have h := h.2
    refine xw_i2l hf (pc := 2230) dL_law_2230 ?_
    refine xw_ldc2 hf (pc := 2231) dL_law_2231 mw_L_law_0 ?_
    refine xw_land hf (pc := 2234) dL_law_2234 ?_
    refine xw_lor hf (pc := 2235) dL_law_2235 ?_
    refine xw_aload_n hf (pc := 2236) dL_law_2236 rfl 0 rfl ?_
    refine xw_iload hf (pc := 2237) dL_law_2237 4 rfl ?_
    refine xw_iconst hf (pc := 2239) dL_law_2239 (v := 3) (by decide) ?_
    refine xw_iadd hf (pc := 2240) dL_law_2240 ?_
    refine xw_sald hf hX dL_law_2241 h.1 ?_
    have h := h.2
    refine xw_aload_n hf (pc := 2242) dL_law_2242 rfl 3 rfl ?_
    obtain ⟨mc694, ms695, mc696, ms697, ⟨hb1, hb2⟩, h⟩ := h
    refine xw_callSW hf (pc := 2243) (nA := 4) (Xr := [(a11, .inl (gI (xg x), 32, .inl v6)), (a12, .inl (gI (xg x), 32, .inl v7)), (a25, .inr (3, [.ref a26])), (a26, .inl (gI (xg x), 32, .inl v18)), (a27, .inr (9, [.int v19, .ref a28, .int v20, .ref a29, .ref a30, .ref a31, .ref a32, .ref v30, .ref v33, .ref v36, .int v21, .int v22, .ref a33, .int v23, .ref a34, .ref a35, .ref a36, .ref a37, .int v24])), (a28, .inl (gJ (xg x), 60, .inr (.inl v25))), (a29, .inl (gI (xg x), 27, .inl v26)), (a30, .inl (gI (xg x), 27, .inl v27)), (a31, .inl (gI (xg x), 27, .inl v28)), (a32, .inl (gI (xg x), 27, .inl v29)), (v30, .inl (gJ (xg x), v31, .inr (.inl v32))), (v33, .inl (gI (xg x), v34, .inl v35)), (v36, .inl (gZ (xg x), v37, .inl v38)), (a33, .inl (gI (xg x), 12, .inl v39)), (a34, .inl (gI (xg x), 27, .inl v40)), (a35, .inl (gI (xg x), 27, .inl v41)), (a36, .inl (gI (xg x), 60, .inl v42)), (a37, .inl (gI (xg x), 3, .inl v43))]) (rest := []) (c_L_cutToOrder (xl x) (xg x) hst a0 a1 a2 a3 a4 a5 a6 a7 a8 a9 a10 a13 a14 a15 a16 a17 a18 a19 a20 a21 a22 a23 a24 a38 a39 a25 a11 a12 v0 v1 v2 v3 v4 v5 v8 v9 v10 v11 v12 v13 v14 v15 v16 v17 v44 v45 ((((v47 (z4 + 1).toNatClampNeg).toInt64) <<< ((32 : Int32).toInt64 &&& 63)) ||| (((v47 (z4 + 2).toNatClampNeg).toInt64) &&& 4294967295)) (v47 (z4 + 3).toNatClampNeg) h) gL_law_L_cutToOrder (by rfl) rfl (by decide +kernel) ⟨⟨(Nat.le_of_ble_eq_true rfl), (Nat.le_of_ble_eq_true rfl)⟩, (Nat.le_trans (show k0 + mc694 ≤ k0 + rc by omega) hk.1), (Nat.le_trans (show n0 + ms695 ≤ n0 + rs by omega) hk.2)⟩ (Nat.le_of_ble_eq_true rfl) (sb_zc (sb_of [0, 1, 2, 3, 4, 5, 6, 7, 8, 9, 10, 13, 14, 15, 16, 17, 18, 19, 20, 21, 22, 23, 24, 41, 11, 12, 25, 26, 27, 28, 29, 30, 31, 32, 33, 34, 35, 36, 37, 38, 39, 40] rfl rfl)) rfl dL_law_2243 (fun v X1 hp => ?_)
    obtain ⟨r677, w678, w679, w680, w681, w682, w683, w684, w685, w686, w687, w688, w689, w690, w691, w692, w693, rfl, rfl, h⟩ := hp
    have hk : k0 + mc694 + mc696 ≤ (rm_L_law).cells ∧ n0 + ms695 + ms697 ≤ (rm_L_law).slots := ⟨Nat.le_trans (show k0 + mc694 + mc696 ≤ k0 + rc by omega) hk.1, Nat.le_trans (show n0 + ms695 + ms697 ≤ n0 + rs by omega) hk.2⟩
    refine xw_X (sb_cz (sb_of [0, 1, 2, 3, 4, 5, 6, 7, 8, 9, 10, 24, 25, 11, 12, 13, 14, 15, 16, 17, 18, 19, 20, 21, 22, 26, 27, 28, 29, 30, 31, 32, 33, 34, 35, 36, 37, 38, 39, 40, 41, 23] rfl rfl)) (show ww x (W_L_law (xg x) a0 a1 a2 a3 a4 a5 a6 a7 a8 a9 a10 a11 a12 a13 a14 a15 a16 a17 a18 a19 a20 a21 a22 a23 a24 a25 a26 a27 a28 a29 a30 a31 a32 a33 a34 a35 a36 a37 a38 a39 ab v0 v1 w678 w679 w680 w681 v6 v7 w682 w683 w684 w685 w686 w687 w688 w689 w690 w691 v18 v19 v20 v21 v22 v23 v24 v25 v26 v27 v28 v29 v30 v31 v32 v33 v34 v35 v36 v37 v38 v39 v40 v41 v42 v43 w692 v46 v47 ++ ZP (xg x) a39 w693) [(0, .ref ab), (1, .ref a0), (2, .ref a27), (3, .ref a38), (4, .int z4)] (k0 + mc694) (n0 + ms695) 2246 [.int r677] from ?_)
    refine xw_istore hf (pc := 2246) dL_law_2246 [(5, .int r677), (0, .ref ab), (1, .ref a0), (2, .ref a27), (3, .ref a38), (4, .int z4)] hn (by decide) rfl ?_
    refine xw_aload_n hf (pc := 2248) dL_law_2248 rfl 3 rfl ?_
    refine xw_aload_n hf (pc := 2249) dL_law_2249 rfl 1 rfl ?_
    refine xw_iload hf (pc := 2250) dL_law_2250 5 rfl ?_
    refine xw_iconst hf (pc := 2252) dL_law_2252 (v := 1) (by decide) ?_
    refine xw_iadd hf (pc := 2253) dL_law_2253 ?_
    refine xw_sald hf hX dL_law_2254 h.1 ?_
    have h := h.2
    refine xw_i2l hf (pc := 2255) dL_law_2255 ?_
    refine xw_bipush hf (pc := 2256) dL_law_2256 (v := 32) (by decide) ?_
    refine xw_lshl hf (pc := 2258) dL_law_2258 ?_
    refine xw_aload_n hf (pc := 2259) dL_law_2259 rfl 1 rfl ?_
    refine xw_iload hf (pc := 2260) dL_law_2260 5 rfl ?_
    refine xw_iconst hf (pc := 2262) dL_law_2262 (v := 2) (by decide) ?_
    refine xw_iadd hf (pc := 2263) dL_law_2263 ?_
    refine xw_sald hf hX dL_law_2264 h.1 ?_
    have h := h.2
    refine xw_i2l hf (pc := 2265) dL_law_2265 ?_
    refine xw_ldc2 hf (pc := 2266) dL_law_2266 mw_L_law_0 ?_
    refine xw_land hf (pc := 2269) dL_law_2269 ?_
    refine xw_lor hf (pc := 2270) dL_law_2270 ?_
    refine xw_aload_n hf (pc := 2271) dL_law_2271 rfl 1 rfl ?_
    refine xw_iload hf (pc := 2272) dL_law_2272 5 rfl ?_
    refine xw_iconst hf (pc := 2274) dL_law_2274 (v := 3) (by decide) ?_
    refine xw_iadd hf (pc := 2275) dL_law_2275 ?_
    refine xw_sald hf hX dL_law_2276 h.1 ?_
    have h := h.2
    obtain ⟨mc721, ms722, mc723, ms724, ⟨hb1, hb2⟩, h⟩ := h
    refine xw_callV hf (pc := 2277) (nA := 2) (Xr := [(a0, .inr (8, [.ref a1, .ref a8, .ref a13, .ref a18, .ref a25])), (a1, .inr (2, [.ref a2, .ref a4, .ref a6])), (a2, .inr (7, [.ref a3, .int v0])), (a3, .inl (gJ (xg x), 60, .inr (.inl v1))), (a4, .inr (7, [.ref a5, .int w678])), (a5, .inl (gJ (xg x), 60, .inr (.inl w679))), (a6, .inr (3, [.ref a7])), (a7, .inl (gI (xg x), 32, .inl w680)), (a8, .inr (6, [.ref a9, .ref a11, .ref a12])), (a9, .inr (3, [.ref a10])), (a10, .inl (gI (xg x), 32, .inl w681)), (a11, .inl (gI (xg x), 32, .inl v6)), (a12, .inl (gI (xg x), 32, .inl v7)), (a13, .inr (1, [.ref a39, .ref a14, .ref a16, .int w682])), (a14, .inr (3, [.ref a15])), (a15, .inl (gI (xg x), 32, .inl w683)), (a16, .inr (3, [.ref a17])), (a17, .inl (gI (xg x), 32, .inl w684)), (a18, .inr (4, [.ref a19, .ref a21, .ref a23, .int w685, .int w686])), (a19, .inr (3, [.ref a20])), (a20, .inl (gI (xg x), 32, .inl w687)), (a21, .inr (7, [.ref a22, .int w688])), (a22, .inl (gJ (xg x), 60, .inr (.inl w689))), (a23, .inr (7, [.ref a24, .int w690])), (a24, .inl (gJ (xg x), 60, .inr (.inl w691))), (a25, .inr (3, [.ref a26])), (a26, .inl (gI (xg x), 32, .inl v18)), (a30, .inl (gI (xg x), 27, .inl v27)), (a38, .inl (gJ (xg x), 1, .inr (.inl w692)))] ++ ZP (xg x) a39 w693) (rest := []) (T := TX9) (c_X9_cutToOrder (xl x) (xg x) a27 a28 a29 a31 a32 a33 a34 a35 a36 a37 a30 v19 v20 v21 v22 v23 v24 v25 v26 v28 v29 v30 v31 v32 v33 v34 v35 v36 v37 v38 v39 v40 v41 v42 v43 ((((v47 (z4 + 1).toNatClampNeg).toInt64) <<< ((32 : Int32).toInt64 &&& 63)) ||| (((v47 (z4 + 2).toNatClampNeg).toInt64) &&& 4294967295)) (v47 (z4 + 3).toNatClampNeg) h) gL_law_X9_cutToOrder (by rfl) rfl rfl (by decide +kernel) ⟨⟨(Nat.le_of_ble_eq_true rfl), (Nat.le_of_ble_eq_true rfl)⟩, (Nat.le_trans (show k0 + mc694 + mc721 ≤ k0 + mc694 + mc696 by omega) hk.1), (Nat.le_trans (show n0 + ms695 + ms722 ≤ n0 + ms695 + ms697 by omega) hk.2)⟩ (Nat.le_of_ble_eq_true rfl) rfl rfl (sb_zr (sb_of [27, 28, 29, 31, 32, 33, 34, 35, 36, 37, 38, 39, 40, 0, 1, 2, 3, 4, 5, 6, 7, 8, 9, 10, 11, 12, 13, 14, 15, 16, 17, 18, 19, 20, 21, 22, 23, 24, 25, 26, 30, 41] rfl rfl)) rfl dL_law_2277 (fun v X1 hp => ?_)
    obtain ⟨r698, w699, w700, w701, w702, w703, w704, w705, w706, w707, w708, w709, w710, w711, w712, w713, w714, w715, w716, w717, w718, w719, w720, rfl, rfl, h⟩ := hp
    have hk : k0 + mc694 + mc721 + mc723 ≤ (rm_L_law).cells ∧ n0 + ms695 + ms722 + ms724 ≤ (rm_L_law).slots := ⟨Nat.le_trans (show k0 + mc694 + mc721 + mc723 ≤ k0 + mc694 + mc696 by omega) hk.1, Nat.le_trans (show n0 + ms695 + ms722 + ms724 ≤ n0 + ms695 + ms697 by omega) hk.2⟩
    refine xw_X (sb_rz (sb_of [13, 14, 15, 16, 17, 18, 19, 20, 21, 22, 23, 24, 25, 26, 27, 28, 29, 30, 31, 32, 33, 34, 35, 36, 37, 38, 39, 0, 1, 2, 40, 3, 4, 5, 6, 7, 8, 9, 10, 11, 12, 41] rfl rfl)) (show ww x (W_L_law (xg x) a0 a1 a2 a3 a4 a5 a6 a7 a8 a9 a10 a11 a12 a13 a14 a15 a16 a17 a18 a19 a20 a21 a22 a23 a24 a25 a26 a27 a28 a29 a30 a31 a32 a33 a34 a35 a36 a37 a38 a39 ab v0 v1 w678 w679 w680 w681 v6 v7 w682 w683 w684 w685 w686 w687 w688 w689 w690 w691 v18 w699 v20 w700 w701 w702 w703 v25 w704 v27 w705 w706 w707 w708 w709 w710 w711 w712 w713 w714 w715 w716 w717 w718 w719 w720 w692 v46 v47 ++ ZP (xg x) a39 w693) [(5, .int r677), (0, .ref ab), (1, .ref a0), (2, .ref a27), (3, .ref a38), (4, .int z4)] (k0 + mc694 + mc721) (n0 + ms695 + ms722) 2280 [.int r698] from ?_)
    refine xw_istore hf (pc := 2280) dL_law_2280 [(6, .int r698), (5, .int r677), (0, .ref ab), (1, .ref a0), (2, .ref a27), (3, .ref a38), (4, .int z4)] hn (by decide) rfl ?_
    refine xw_aload_n hf (pc := 2282) dL_law_2282 rfl 4 rfl ?_
    refine xw_callV hf (pc := 2283) (nA := 0) (Xr := [(a0, .inr (8, [.ref a1, .ref a8, .ref a13, .ref a18, .ref a25])), (a1, .inr (2, [.ref a2, .ref a4, .ref a6])), (a2, .inr (7, [.ref a3, .int v0])), (a3, .inl (gJ (xg x), 60, .inr (.inl v1))), (a4, .inr (7, [.ref a5, .int w678])), (a5, .inl (gJ (xg x), 60, .inr (.inl w679))), (a6, .inr (3, [.ref a7])), (a7, .inl (gI (xg x), 32, .inl w680)), (a8, .inr (6, [.ref a9, .ref a11, .ref a12])), (a9, .inr (3, [.ref a10])), (a10, .inl (gI (xg x), 32, .inl w681)), (a11, .inl (gI (xg x), 32, .inl v6)), (a12, .inl (gI (xg x), 32, .inl v7)), (a13, .inr (1, [.ref a39, .ref a14, .ref a16, .int w682])), (a14, .inr (3, [.ref a15])), (a15, .inl (gI (xg x), 32, .inl w683)), (a16, .inr (3, [.ref a17])), (a17, .inl (gI (xg x), 32, .inl w684)), (a18, .inr (4, [.ref a19, .ref a21, .ref a23, .int w685, .int w686])), (a19, .inr (3, [.ref a20])), (a20, .inl (gI (xg x), 32, .inl w687)), (a21, .inr (7, [.ref a22, .int w688])), (a22, .inl (gJ (xg x), 60, .inr (.inl w689))), (a23, .inr (7, [.ref a24, .int w690])), (a24, .inl (gJ (xg x), 60, .inr (.inl w691))), (a25, .inr (3, [.ref a26])), (a26, .inl (gI (xg x), 32, .inl v18)), (a28, .inl (gJ (xg x), 60, .inr (.inl v25))), (a29, .inl (gI (xg x), 27, .inl w704)), (a30, .inl (gI (xg x), 27, .inl v27)), (a31, .inl (gI (xg x), 27, .inl w705)), (a32, .inl (gI (xg x), 27, .inl w706)), (w707, .inl (gJ (xg x), w708, .inr (.inl w709))), (w710, .inl (gI (xg x), w711, .inl w712)), (w713, .inl (gZ (xg x), w714, .inl w715)), (a33, .inl (gI (xg x), 12, .inl w716)), (a34, .inl (gI (xg x), 27, .inl w717)), (a35, .inl (gI (xg x), 27, .inl w718)), (a36, .inl (gI (xg x), 60, .inl w719)), (a37, .inl (gI (xg x), 3, .inl w720)), (a38, .inl (gJ (xg x), 1, .inr (.inl w692)))] ++ ZP (xg x) a39 w693) (rest := []) (T := TX9) (c_X9_thrown (xl x) (xg x) a27 a28 a29 a30 a31 a32 w707 w710 w713 a33 a34 a35 a36 a37 w699 v20 w700 w701 w702 w703 h) gL_law_X9_thrown (by rfl) rfl rfl (by decide +kernel) ⟨⟨(Nat.le_of_ble_eq_true rfl), (Nat.le_of_ble_eq_true rfl)⟩, (Nat.le_trans (Nat.le_add_right _ _) hk.1), (Nat.le_trans (Nat.le_add_right _ _) hk.2)⟩ (Nat.le_of_ble_eq_true rfl) rfl rfl (sb_zr (sb_of [27, 0, 1, 2, 3, 4, 5, 6, 7, 8, 9, 10, 11, 12, 13, 14, 15, 16, 17, 18, 19, 20, 21, 22, 23, 24, 25, 26, 28, 29, 30, 31, 32, 33, 34, 35, 36, 37, 38, 39, 40, 41] rfl rfl)) rfl dL_law_2283 (fun v X1 hp => ?_)
    obtain ⟨r725, rfl, rfl, h⟩ := hp
    refine xw_X (sb_rz (sb_of [1, 2, 3, 4, 5, 6, 7, 8, 9, 10, 11, 12, 13, 14, 15, 16, 17, 18, 19, 20, 21, 22, 23, 24, 25, 26, 27, 0, 28, 29, 30, 31, 32, 33, 34, 35, 36, 37, 38, 39, 40, 41] rfl rfl)) (show ww x (W_L_law (xg x) a0 a1 a2 a3 a4 a5 a6 a7 a8 a9 a10 a11 a12 a13 a14 a15 a16 a17 a18 a19 a20 a21 a22 a23 a24 a25 a26 a27 a28 a29 a30 a31 a32 a33 a34 a35 a36 a37 a38 a39 ab v0 v1 w678 w679 w680 w681 v6 v7 w682 w683 w684 w685 w686 w687 w688 w689 w690 w691 v18 w699 v20 w700 w701 w702 w703 v25 w704 v27 w705 w706 w707 w708 w709 w710 w711 w712 w713 w714 w715 w716 w717 w718 w719 w720 w692 v46 v47 ++ ZP (xg x) a39 w693) [(6, .int r698), (5, .int r677), (0, .ref ab), (1, .ref a0), (2, .ref a27), (3, .ref a38), (4, .int z4)] (k0 + mc694 + mc721) (n0 + ms695 + ms722) 2286 [.int r725] from ?_)
    refine xw_iload hf (pc := 2286) dL_law_2286 1 rfl ?_
    refine xw_icmp_eq hf (pc := 2288) dL_law_2288 (tgt := 2293) rfl ⟨fun c => ?_, fun c => ?_⟩
    · have h := h.1 c
      refine xw_iload hf (pc := 2293) dL_law_2293 1 rfl ?_
      refine xw_if_ne hf (pc := 2295) dL_law_2295 (c := r677 = 0) Iff.rfl (tgt := 2310) rfl ⟨fun c => ?_, fun c => ?_⟩
      · have h := h.1 c
        refine xw_aload_n hf (pc := 2298) dL_law_2298 rfl 5 rfl ?_
        refine xw_iconst hf (pc := 2299) dL_law_2299 (v := 0) (by decide) ?_
        refine xw_lald hf (pc := 2300) dL_law_2300 41 rfl h.1 ?_
        have h := h.2
        refine xw_iload hf (pc := 2301) dL_law_2301 0 rfl ?_
        refine xw_i2l hf (pc := 2303) dL_law_2303 ?_
        refine xw_lcmp hf (pc := 2304) dL_law_2304 ?_
        refine xw_if_eq hf (pc := 2305) dL_law_2305 (c := (w692 (0 : Int32).toNatClampNeg) = r698.toInt64) (lc_eq _ _) (tgt := 2310) rfl ⟨fun c => ?_, fun c => ?_⟩
        · have h := h.1 c
          refine xw_goto hf (pc := 2310) dL_law_2310 (tgt := 2681) rfl ?_
          refine xw_L [2, 3, 4, 5, 6] rfl ?_
          exact hK2681 _ _ _ _ hk _ _ _ _ _ _ _ _ _ _ _ _ _ _ _ _ _ _ _ _ _ _ _ _ _ _ _ _ _ _ _ _ _ _ _ _ _ _ h
        · have h := h.2 c
          refine xw_iconst hf (pc := 2308) dL_law_2308 (v := 0) (by decide) ?_
          exact h.elim
      · have h := h.2 c
        refine xw_goto hf (pc := 2310) dL_law_2310 (tgt := 2681) rfl ?_
        refine xw_L [2, 3, 4, 5, 6] rfl ?_
        exact hK2681 _ _ _ _ hk _ _ _ _ _ _ _ _ _ _ _ _ _ _ _ _ _ _ _ _ _ _ _ _ _ _ _ _ _ _ _ _ _ _ _ _ _ _ h
    · have h := h.2 c
      refine xw_iconst hf (pc := 2291) dL_law_2291 (v := 0) (by decide) ?_
      exact h.elim
set_option maxHeartbeats 4000000 in
set_option maxRecDepth 100000 in
theorem w_L_law_L2313 {x : Cx} {mc ms : Nat} (hf : fx x (rm_L_law) RL cL_law wsL_law) (hn : xn x = 8) {k0 n0 rc rs : Nat} (hk : k0 + rc ≤ (rm_L_law).cells ∧ n0 + rs ≤ (rm_L_law).slots) (a0 a1 a2 a3 a4 a5 a6 a7 a8 a9 a10 a11 a12 a13 a14 a15 a16 a17 a18 a19 a20 a21 a22 a23 a24 a25 a26 a27 a28 a29 a30 a31 a32 a33 a34 a35 a36 a37 a38 a39 ab : Nat) (z4 : Int32) (v8 : Int32) (v20 : Int32) (v21 : Int32) (v22 : Int32) (v23 : Int32) (v24 : Int32) (v45 : ZL) (v0 : Int32) (v1 : Nat → Int64) (v2 : Int32) (v3 : Nat → Int64) (v4 : Nat → Int32) (v5 : Nat → Int32) (v6 : Nat → Int32) (v7 : Nat → Int32) (v9 : Nat → Int32) (v10 : Nat → Int32) (v11 : Int32) (v12 : Int32) (v13 : Nat → Int32) (v14 : Int32) (v15 : Nat → Int64) (v16 : Int32) (v17 : Nat → Int64) (v18 : Nat → Int32) (v25 : Nat → Int64) (v26 : Nat → Int32) (v27 : Nat → Int32) (v28 : Nat → Int32) (v29 : Nat → Int32) (v30 : Nat) (v31 : Nat) (v32 : Nat → Int64) (v33 : Nat) (v34 : Nat) (v35 : Nat → Int32) (v36 : Nat) (v37 : Nat) (v38 : Nat → Int32) (v39 : Nat → Int32) (v40 : Nat → Int32) (v41 : Nat → Int32) (v42 : Nat → Int32) (v43 : Nat → Int32) (v44 : Nat → Int64) (v46 : Nat) (v47 : Nat → Int32) {K2681 : Nat → Nat → Int32 → Prop} (hst : (xl x).stackTraces = false) (hX : sX x ab v46 v47)
    (n : Nat) (v19 : Int32) (h : P_L_law_L2313 z4 v8 v20 v21 v22 v23 v24 v45 K2681 n rc rs v19)
    (hK2681 : ∀ (k0 n0 rc rs : Nat), k0 + rc ≤ (rm_L_law).cells ∧ n0 + rs ≤ (rm_L_law).slots → ∀ (uv19 : Int32), K2681 rc rs uv19 → ww x (W_L_law (xg x) a0 a1 a2 a3 a4 a5 a6 a7 a8 a9 a10 a11 a12 a13 a14 a15 a16 a17 a18 a19 a20 a21 a22 a23 a24 a25 a26 a27 a28 a29 a30 a31 a32 a33 a34 a35 a36 a37 a38 a39 ab v0 v1 v2 v3 v4 v5 v6 v7 v8 v9 v10 v11 v12 v13 v14 v15 v16 v17 v18 uv19 v20 v21 v22 v23 v24 v25 v26 v27 v28 v29 v30 v31 v32 v33 v34 v35 v36 v37 v38 v39 v40 v41 v42 v43 v44 v46 v47 ++ ZP (xg x) a39 v45) [(0, .ref ab), (1, .ref a0), (2, .ref a27), (3, .ref a38), (4, .int z4)] k0 n0 2681 []) :
    ww x (W_L_law (xg x) a0 a1 a2 a3 a4 a5 a6 a7 a8 a9 a10 a11 a12 a13 a14 a15 a16 a17 a18 a19 a20 a21 a22 a23 a24 a25 a26 a27 a28 a29 a30 a31 a32 a33 a34 a35 a36 a37 a38 a39 ab v0 v1 v2 v3 v4 v5 v6 v7 v8 v9 v10 v11 v12 v13 v14 v15 v16 v17 v18 v19 v20 v21 v22 v23 v24 v25 v26 v27 v28 v29 v30 v31 v32 v33 v34 v35 v36 v37 v38 v39 v40 v41 v42 v43 v44 v46 v47 ++ ZP (xg x) a39 v45) [(0, .ref ab), (1, .ref a0), (2, .ref a27), (3, .ref a38), (4, .int z4)] k0 n0 2313 [] := by
  induction n generalizing k0 n0 rc rs v19 with
  | zero => exact h.elim
  | succ n ih =>
    unfold P_L_law_L2313 at h
    refine xw_aload_n hf (pc := 2313) dL_law_2313 rfl 1 rfl ?_
    refine xw_callV hf (pc := 2314) (nA := 0) (Xr := [(a1, .inr (2, [.ref a2, .ref a4, .ref a6])), (a2, .inr (7, [.ref a3, .int v0])), (a3, .inl (gJ (xg x), 60, .inr (.inl v1))), (a4, .inr (7, [.ref a5, .int v2])), (a5, .inl (gJ (xg x), 60, .inr (.inl v3))), (a6, .inr (3, [.ref a7])), (a7, .inl (gI (xg x), 32, .inl v4)), (a8, .inr (6, [.ref a9, .ref a11, .ref a12])), (a9, .inr (3, [.ref a10])), (a10, .inl (gI (xg x), 32, .inl v5)), (a11, .inl (gI (xg x), 32, .inl v6)), (a12, .inl (gI (xg x), 32, .inl v7)), (a14, .inr (3, [.ref a15])), (a15, .inl (gI (xg x), 32, .inl v9)), (a16, .inr (3, [.ref a17])), (a17, .inl (gI (xg x), 32, .inl v10)), (a18, .inr (4, [.ref a19, .ref a21, .ref a23, .int v11, .int v12])), (a19, .inr (3, [.ref a20])), (a20, .inl (gI (xg x), 32, .inl v13)), (a21, .inr (7, [.ref a22, .int v14])), (a22, .inl (gJ (xg x), 60, .inr (.inl v15))), (a23, .inr (7, [.ref a24, .int v16])), (a24, .inl (gJ (xg x), 60, .inr (.inl v17))), (a25, .inr (3, [.ref a26])), (a26, .inl (gI (xg x), 32, .inl v18)), (a27, .inr (9, [.int v19, .ref a28, .int v20, .ref a29, .ref a30, .ref a31, .ref a32, .ref v30, .ref v33, .ref v36, .int v21, .int v22, .ref a33, .int v23, .ref a34, .ref a35, .ref a36, .ref a37, .int v24])), (a28, .inl (gJ (xg x), 60, .inr (.inl v25))), (a29, .inl (gI (xg x), 27, .inl v26)), (a30, .inl (gI (xg x), 27, .inl v27)), (a31, .inl (gI (xg x), 27, .inl v28)), (a32, .inl (gI (xg x), 27, .inl v29)), (v30, .inl (gJ (xg x), v31, .inr (.inl v32))), (v33, .inl (gI (xg x), v34, .inl v35)), (v36, .inl (gZ (xg x), v37, .inl v38)), (a33, .inl (gI (xg x), 12, .inl v39)), (a34, .inl (gI (xg x), 27, .inl v40)), (a35, .inl (gI (xg x), 27, .inl v41)), (a36, .inl (gI (xg x), 60, .inl v42)), (a37, .inl (gI (xg x), 3, .inl v43)), (a38, .inl (gJ (xg x), 1, .inr (.inl v44)))]) (rest := []) (T := TX8) (c_X8_receiptCount (xl x) (xg x) a0 a13 a39 a1 a8 a18 a25 a14 a16 v8 v45 h) gL_law_X8_receiptCount (by rfl) rfl rfl (by decide +kernel) ⟨⟨(Nat.le_of_ble_eq_true rfl), (Nat.le_of_ble_eq_true rfl)⟩, (Nat.le_trans (Nat.le_add_right _ _) hk.1), (Nat.le_trans (Nat.le_add_right _ _) hk.2)⟩ (Nat.le_of_ble_eq_true rfl) rfl rfl (sb_zc (sb_of [0, 13, 1, 2, 3, 4, 5, 6, 7, 8, 9, 10, 11, 12, 14, 15, 16, 17, 18, 19, 20, 21, 22, 23, 24, 25, 26, 27, 28, 29, 30, 31, 32, 33, 34, 35, 36, 37, 38, 39, 40, 41] rfl rfl)) rfl dL_law_2314 (fun v X1 hp => ?_)
    obtain ⟨r768, rfl, rfl, h⟩ := hp
    refine xw_X (sb_cz (sb_of [0, 2, 3, 4, 5, 6, 7, 8, 9, 10, 11, 12, 13, 1, 14, 15, 16, 17, 18, 19, 20, 21, 22, 23, 24, 25, 26, 27, 28, 29, 30, 31, 32, 33, 34, 35, 36, 37, 38, 39, 40, 41] rfl rfl)) (show ww x (W_L_law (xg x) a0 a1 a2 a3 a4 a5 a6 a7 a8 a9 a10 a11 a12 a13 a14 a15 a16 a17 a18 a19 a20 a21 a22 a23 a24 a25 a26 a27 a28 a29 a30 a31 a32 a33 a34 a35 a36 a37 a38 a39 ab v0 v1 v2 v3 v4 v5 v6 v7 v8 v9 v10 v11 v12 v13 v14 v15 v16 v17 v18 v19 v20 v21 v22 v23 v24 v25 v26 v27 v28 v29 v30 v31 v32 v33 v34 v35 v36 v37 v38 v39 v40 v41 v42 v43 v44 v46 v47 ++ ZP (xg x) a39 v45) [(0, .ref ab), (1, .ref a0), (2, .ref a27), (3, .ref a38), (4, .int z4)] k0 n0 2317 [.int r768] from ?_)
    refine xw_aload_n hf (pc := 2317) dL_law_2317 rfl 2 rfl ?_
    refine xw_callV hf (pc := 2318) (nA := 0) (Xr := [(a0, .inr (8, [.ref a1, .ref a8, .ref a13, .ref a18, .ref a25])), (a1, .inr (2, [.ref a2, .ref a4, .ref a6])), (a2, .inr (7, [.ref a3, .int v0])), (a3, .inl (gJ (xg x), 60, .inr (.inl v1))), (a4, .inr (7, [.ref a5, .int v2])), (a5, .inl (gJ (xg x), 60, .inr (.inl v3))), (a6, .inr (3, [.ref a7])), (a7, .inl (gI (xg x), 32, .inl v4)), (a8, .inr (6, [.ref a9, .ref a11, .ref a12])), (a9, .inr (3, [.ref a10])), (a10, .inl (gI (xg x), 32, .inl v5)), (a11, .inl (gI (xg x), 32, .inl v6)), (a12, .inl (gI (xg x), 32, .inl v7)), (a13, .inr (1, [.ref a39, .ref a14, .ref a16, .int v8])), (a14, .inr (3, [.ref a15])), (a15, .inl (gI (xg x), 32, .inl v9)), (a16, .inr (3, [.ref a17])), (a17, .inl (gI (xg x), 32, .inl v10)), (a18, .inr (4, [.ref a19, .ref a21, .ref a23, .int v11, .int v12])), (a19, .inr (3, [.ref a20])), (a20, .inl (gI (xg x), 32, .inl v13)), (a21, .inr (7, [.ref a22, .int v14])), (a22, .inl (gJ (xg x), 60, .inr (.inl v15))), (a23, .inr (7, [.ref a24, .int v16])), (a24, .inl (gJ (xg x), 60, .inr (.inl v17))), (a25, .inr (3, [.ref a26])), (a26, .inl (gI (xg x), 32, .inl v18)), (a28, .inl (gJ (xg x), 60, .inr (.inl v25))), (a29, .inl (gI (xg x), 27, .inl v26)), (a30, .inl (gI (xg x), 27, .inl v27)), (a31, .inl (gI (xg x), 27, .inl v28)), (a32, .inl (gI (xg x), 27, .inl v29)), (v30, .inl (gJ (xg x), v31, .inr (.inl v32))), (v33, .inl (gI (xg x), v34, .inl v35)), (v36, .inl (gZ (xg x), v37, .inl v38)), (a33, .inl (gI (xg x), 12, .inl v39)), (a34, .inl (gI (xg x), 27, .inl v40)), (a35, .inl (gI (xg x), 27, .inl v41)), (a36, .inl (gI (xg x), 60, .inl v42)), (a37, .inl (gI (xg x), 3, .inl v43)), (a38, .inl (gJ (xg x), 1, .inr (.inl v44)))] ++ ZP (xg x) a39 v45) (rest := [.int r768]) (T := TX9) (c_X9_receiptCount (xl x) (xg x) a27 a28 a29 a30 a31 a32 v30 v33 v36 a33 a34 a35 a36 a37 v19 v20 v21 v22 v23 v24 h) gL_law_X9_receiptCount (by rfl) rfl rfl (by decide +kernel) ⟨⟨(Nat.le_of_ble_eq_true rfl), (Nat.le_of_ble_eq_true rfl)⟩, (Nat.le_trans (Nat.le_add_right _ _) hk.1), (Nat.le_trans (Nat.le_add_right _ _) hk.2)⟩ (Nat.le_of_ble_eq_true rfl) rfl rfl (sb_zr (sb_of [27, 0, 1, 2, 3, 4, 5, 6, 7, 8, 9, 10, 11, 12, 13, 14, 15, 16, 17, 18, 19, 20, 21, 22, 23, 24, 25, 26, 28, 29, 30, 31, 32, 33, 34, 35, 36, 37, 38, 39, 40, 41] rfl rfl)) rfl dL_law_2318 (fun v X1 hp => ?_)
    obtain ⟨r769, w770, rfl, rfl, h⟩ := hp
    refine xw_X (sb_rz (sb_of [1, 2, 3, 4, 5, 6, 7, 8, 9, 10, 11, 12, 13, 14, 15, 16, 17, 18, 19, 20, 21, 22, 23, 24, 25, 26, 27, 0, 28, 29, 30, 31, 32, 33, 34, 35, 36, 37, 38, 39, 40, 41] rfl rfl)) (show ww x (W_L_law (xg x) a0 a1 a2 a3 a4 a5 a6 a7 a8 a9 a10 a11 a12 a13 a14 a15 a16 a17 a18 a19 a20 a21 a22 a23 a24 a25 a26 a27 a28 a29 a30 a31 a32 a33 a34 a35 a36 a37 a38 a39 ab v0 v1 v2 v3 v4 v5 v6 v7 v8 v9 v10 v11 v12 v13 v14 v15 v16 v17 v18 w770 v20 v21 v22 v23 v24 v25 v26 v27 v28 v29 v30 v31 v32 v33 v34 v35 v36 v37 v38 v39 v40 v41 v42 v43 v44 v46 v47 ++ ZP (xg x) a39 v45) [(0, .ref ab), (1, .ref a0), (2, .ref a27), (3, .ref a38), (4, .int z4)] k0 n0 2321 [.int r769, .int r768] from ?_)
    refine xw_icmp_eq hf (pc := 2321) dL_law_2321 (tgt := 2681) rfl ⟨fun c => ?_, fun c => ?_⟩
    · have h := h.1 c
      refine xw_L [0, 1, 2, 3, 4] rfl ?_
      exact hK2681 _ _ _ _ hk _ h
    · have h := h.2 c
      refine xw_iconst hf (pc := 2324) dL_law_2324 (v := 0) (by decide) ?_
      exact h.elim
set_option maxHeartbeats 4000000 in
set_option maxRecDepth 100000 in
theorem w_L_law_L2326 {x : Cx} {mc ms : Nat} (hf : fx x (rm_L_law) RL cL_law wsL_law) (hn : xn x = 8) {k0 n0 rc rs : Nat} (hk : k0 + rc ≤ (rm_L_law).cells ∧ n0 + rs ≤ (rm_L_law).slots) (a0 a1 a2 a3 a4 a5 a6 a7 a8 a9 a10 a11 a12 a13 a14 a15 a16 a17 a18 a19 a20 a21 a22 a23 a24 a25 a26 a27 a28 a29 a30 a31 a32 a33 a34 a35 a36 a37 a38 a39 ab : Nat) (z4 : Int32) (v8 : Int32) (v20 : Int32) (v21 : Int32) (v22 : Int32) (v23 : Int32) (v24 : Int32) (v30 : Nat) (v31 : Nat) (v32 : Nat → Int64) (v45 : ZL) (v46 : Nat) (v47 : Nat → Int32) (v0 : Int32) (v1 : Nat → Int64) (v2 : Int32) (v3 : Nat → Int64) (v4 : Nat → Int32) (v5 : Nat → Int32) (v6 : Nat → Int32) (v7 : Nat → Int32) (v9 : Nat → Int32) (v10 : Nat → Int32) (v11 : Int32) (v12 : Int32) (v13 : Nat → Int32) (v14 : Int32) (v15 : Nat → Int64) (v16 : Int32) (v17 : Nat → Int64) (v18 : Nat → Int32) (v25 : Nat → Int64) (v26 : Nat → Int32) (v27 : Nat → Int32) (v28 : Nat → Int32) (v29 : Nat → Int32) (v33 : Nat) (v34 : Nat) (v35 : Nat → Int32) (v36 : Nat) (v37 : Nat) (v38 : Nat → Int32) (v39 : Nat → Int32) (v40 : Nat → Int32) (v41 : Nat → Int32) (v42 : Nat → Int32) (v43 : Nat → Int32) {K2681 : Nat → Nat → Int32 → (Nat → Int64) → Prop} (hst : (xl x).stackTraces = false) (hX : sX x ab v46 v47)
    (n : Nat) (v19 : Int32) (v44 : Nat → Int64) (h : P_L_law_L2326 z4 v8 v20 v21 v22 v23 v24 v30 v31 v32 v45 v46 v47 K2681 n rc rs v19 v44)
    (hK2681 : ∀ (k0 n0 rc rs : Nat), k0 + rc ≤ (rm_L_law).cells ∧ n0 + rs ≤ (rm_L_law).slots → ∀ (uv19 : Int32), ∀ (uv44 : Nat → Int64), K2681 rc rs uv19 uv44 → ww x (W_L_law (xg x) a0 a1 a2 a3 a4 a5 a6 a7 a8 a9 a10 a11 a12 a13 a14 a15 a16 a17 a18 a19 a20 a21 a22 a23 a24 a25 a26 a27 a28 a29 a30 a31 a32 a33 a34 a35 a36 a37 a38 a39 ab v0 v1 v2 v3 v4 v5 v6 v7 v8 v9 v10 v11 v12 v13 v14 v15 v16 v17 v18 uv19 v20 v21 v22 v23 v24 v25 v26 v27 v28 v29 v30 v31 v32 v33 v34 v35 v36 v37 v38 v39 v40 v41 v42 v43 uv44 v46 v47 ++ ZP (xg x) a39 v45) [(0, .ref ab), (1, .ref a0), (2, .ref a27), (3, .ref a38), (4, .int z4)] k0 n0 2681 []) :
    ww x (W_L_law (xg x) a0 a1 a2 a3 a4 a5 a6 a7 a8 a9 a10 a11 a12 a13 a14 a15 a16 a17 a18 a19 a20 a21 a22 a23 a24 a25 a26 a27 a28 a29 a30 a31 a32 a33 a34 a35 a36 a37 a38 a39 ab v0 v1 v2 v3 v4 v5 v6 v7 v8 v9 v10 v11 v12 v13 v14 v15 v16 v17 v18 v19 v20 v21 v22 v23 v24 v25 v26 v27 v28 v29 v30 v31 v32 v33 v34 v35 v36 v37 v38 v39 v40 v41 v42 v43 v44 v46 v47 ++ ZP (xg x) a39 v45) [(0, .ref ab), (1, .ref a0), (2, .ref a27), (3, .ref a38), (4, .int z4)] k0 n0 2326 [] := by
  induction n generalizing k0 n0 rc rs v19 v44 with
  | zero => exact h.elim
  | succ n ih =>
    unfold P_L_law_L2326 at h
    refine xw_aload_n hf (pc := 2326) dL_law_2326 rfl 1 rfl ?_
    refine xw_aload_n hf (pc := 2327) dL_law_2327 rfl 0 rfl ?_
    refine xw_iload hf (pc := 2328) dL_law_2328 4 rfl ?_
    refine xw_iconst hf (pc := 2330) dL_law_2330 (v := 1) (by decide) ?_
    refine xw_iadd hf (pc := 2331) dL_law_2331 ?_
    refine xw_sald hf hX dL_law_2332 h.1 ?_
    have h := h.2
    refine xw_aload_n hf (pc := 2333) dL_law_2333 rfl 3 rfl ?_
    obtain ⟨mc778, ms779, ⟨hb1, hb2⟩, h⟩ := h
    refine xw_callSW hf (pc := 2334) (nA := 3) (Xr := [(a1, .inr (2, [.ref a2, .ref a4, .ref a6])), (a2, .inr (7, [.ref a3, .int v0])), (a3, .inl (gJ (xg x), 60, .inr (.inl v1))), (a4, .inr (7, [.ref a5, .int v2])), (a5, .inl (gJ (xg x), 60, .inr (.inl v3))), (a6, .inr (3, [.ref a7])), (a7, .inl (gI (xg x), 32, .inl v4)), (a8, .inr (6, [.ref a9, .ref a11, .ref a12])), (a9, .inr (3, [.ref a10])), (a10, .inl (gI (xg x), 32, .inl v5)), (a11, .inl (gI (xg x), 32, .inl v6)), (a12, .inl (gI (xg x), 32, .inl v7)), (a14, .inr (3, [.ref a15])), (a15, .inl (gI (xg x), 32, .inl v9)), (a16, .inr (3, [.ref a17])), (a17, .inl (gI (xg x), 32, .inl v10)), (a18, .inr (4, [.ref a19, .ref a21, .ref a23, .int v11, .int v12])), (a19, .inr (3, [.ref a20])), (a20, .inl (gI (xg x), 32, .inl v13)), (a21, .inr (7, [.ref a22, .int v14])), (a22, .inl (gJ (xg x), 60, .inr (.inl v15))), (a23, .inr (7, [.ref a24, .int v16])), (a24, .inl (gJ (xg x), 60, .inr (.inl v17))), (a25, .inr (3, [.ref a26])), (a26, .inl (gI (xg x), 32, .inl v18)), (a27, .inr (9, [.int v19, .ref a28, .int v20, .ref a29, .ref a30, .ref a31, .ref a32, .ref v30, .ref v33, .ref v36, .int v21, .int v22, .ref a33, .int v23, .ref a34, .ref a35, .ref a36, .ref a37, .int v24])), (a28, .inl (gJ (xg x), 60, .inr (.inl v25))), (a29, .inl (gI (xg x), 27, .inl v26)), (a30, .inl (gI (xg x), 27, .inl v27)), (a31, .inl (gI (xg x), 27, .inl v28)), (a32, .inl (gI (xg x), 27, .inl v29)), (v30, .inl (gJ (xg x), v31, .inr (.inl v32))), (v33, .inl (gI (xg x), v34, .inl v35)), (v36, .inl (gZ (xg x), v37, .inl v38)), (a33, .inl (gI (xg x), 12, .inl v39)), (a34, .inl (gI (xg x), 27, .inl v40)), (a35, .inl (gI (xg x), 27, .inl v41)), (a36, .inl (gI (xg x), 60, .inl v42)), (a37, .inl (gI (xg x), 3, .inl v43))]) (rest := []) (c_L_receiptWord (xl x) (xg x) hst a0 a13 a38 a39 a1 a8 a18 a25 a14 a16 v8 v44 v45 (v47 (z4 + 1).toNatClampNeg) h) gL_law_L_receiptWord (by rfl) rfl (by decide +kernel) ⟨⟨(Nat.le_of_ble_eq_true rfl), (Nat.le_of_ble_eq_true rfl)⟩, (Nat.le_trans (show k0 + 1 ≤ k0 + rc by omega) hk.1), (Nat.le_trans (show n0 + 6 ≤ n0 + rs by omega) hk.2)⟩ (Nat.le_of_ble_eq_true rfl) (sb_zc (sb_of [0, 13, 41, 1, 2, 3, 4, 5, 6, 7, 8, 9, 10, 11, 12, 14, 15, 16, 17, 18, 19, 20, 21, 22, 23, 24, 25, 26, 27, 28, 29, 30, 31, 32, 33, 34, 35, 36, 37, 38, 39, 40] rfl rfl)) rfl dL_law_2334 (fun v X1 hp => ?_)
    obtain ⟨r776, w777, rfl, rfl, h⟩ := hp
    have hk : k0 + 1 + mc778 ≤ (rm_L_law).cells ∧ n0 + 6 + ms779 ≤ (rm_L_law).slots := ⟨Nat.le_trans (show k0 + 1 + mc778 ≤ k0 + rc by omega) hk.1, Nat.le_trans (show n0 + 6 + ms779 ≤ n0 + rs by omega) hk.2⟩
    refine xw_X (sb_cz (sb_of [0, 3, 4, 5, 6, 7, 8, 9, 10, 11, 12, 13, 14, 1, 15, 16, 17, 18, 19, 20, 21, 22, 23, 24, 25, 26, 27, 28, 29, 30, 31, 32, 33, 34, 35, 36, 37, 38, 39, 40, 41, 2] rfl rfl)) (show ww x (W_L_law (xg x) a0 a1 a2 a3 a4 a5 a6 a7 a8 a9 a10 a11 a12 a13 a14 a15 a16 a17 a18 a19 a20 a21 a22 a23 a24 a25 a26 a27 a28 a29 a30 a31 a32 a33 a34 a35 a36 a37 a38 a39 ab v0 v1 v2 v3 v4 v5 v6 v7 v8 v9 v10 v11 v12 v13 v14 v15 v16 v17 v18 v19 v20 v21 v22 v23 v24 v25 v26 v27 v28 v29 v30 v31 v32 v33 v34 v35 v36 v37 v38 v39 v40 v41 v42 v43 w777 v46 v47 ++ ZP (xg x) a39 v45) [(0, .ref ab), (1, .ref a0), (2, .ref a27), (3, .ref a38), (4, .int z4)] (k0 + 1) (n0 + 6) 2337 [.int r776] from ?_)
    refine xw_istore hf (pc := 2337) dL_law_2337 [(5, .int r776), (0, .ref ab), (1, .ref a0), (2, .ref a27), (3, .ref a38), (4, .int z4)] hn (by decide) rfl ?_
    refine xw_aload_n hf (pc := 2339) dL_law_2339 rfl 3 rfl ?_
    refine xw_aload_n hf (pc := 2340) dL_law_2340 rfl 1 rfl ?_
    refine xw_iload hf (pc := 2341) dL_law_2341 5 rfl ?_
    refine xw_iconst hf (pc := 2343) dL_law_2343 (v := 1) (by decide) ?_
    refine xw_iadd hf (pc := 2344) dL_law_2344 ?_
    refine xw_sald hf hX dL_law_2345 h.1 ?_
    have h := h.2
    refine xw_callV hf (pc := 2346) (nA := 1) (Xr := [(a0, .inr (8, [.ref a1, .ref a8, .ref a13, .ref a18, .ref a25])), (a1, .inr (2, [.ref a2, .ref a4, .ref a6])), (a2, .inr (7, [.ref a3, .int v0])), (a3, .inl (gJ (xg x), 60, .inr (.inl v1))), (a4, .inr (7, [.ref a5, .int v2])), (a5, .inl (gJ (xg x), 60, .inr (.inl v3))), (a6, .inr (3, [.ref a7])), (a7, .inl (gI (xg x), 32, .inl v4)), (a8, .inr (6, [.ref a9, .ref a11, .ref a12])), (a9, .inr (3, [.ref a10])), (a10, .inl (gI (xg x), 32, .inl v5)), (a11, .inl (gI (xg x), 32, .inl v6)), (a12, .inl (gI (xg x), 32, .inl v7)), (a13, .inr (1, [.ref a39, .ref a14, .ref a16, .int v8])), (a14, .inr (3, [.ref a15])), (a15, .inl (gI (xg x), 32, .inl v9)), (a16, .inr (3, [.ref a17])), (a17, .inl (gI (xg x), 32, .inl v10)), (a18, .inr (4, [.ref a19, .ref a21, .ref a23, .int v11, .int v12])), (a19, .inr (3, [.ref a20])), (a20, .inl (gI (xg x), 32, .inl v13)), (a21, .inr (7, [.ref a22, .int v14])), (a22, .inl (gJ (xg x), 60, .inr (.inl v15))), (a23, .inr (7, [.ref a24, .int v16])), (a24, .inl (gJ (xg x), 60, .inr (.inl v17))), (a25, .inr (3, [.ref a26])), (a26, .inl (gI (xg x), 32, .inl v18)), (a28, .inl (gJ (xg x), 60, .inr (.inl v25))), (a29, .inl (gI (xg x), 27, .inl v26)), (a30, .inl (gI (xg x), 27, .inl v27)), (a31, .inl (gI (xg x), 27, .inl v28)), (a32, .inl (gI (xg x), 27, .inl v29)), (v33, .inl (gI (xg x), v34, .inl v35)), (v36, .inl (gZ (xg x), v37, .inl v38)), (a33, .inl (gI (xg x), 12, .inl v39)), (a34, .inl (gI (xg x), 27, .inl v40)), (a35, .inl (gI (xg x), 27, .inl v41)), (a36, .inl (gI (xg x), 60, .inl v42)), (a37, .inl (gI (xg x), 3, .inl v43)), (a38, .inl (gJ (xg x), 1, .inr (.inl w777)))] ++ ZP (xg x) a39 v45) (rest := []) (T := TX9) (c_X9_receiptWord (xl x) (xg x) a27 a28 a29 a30 a31 a32 v33 v36 a33 a34 a35 a36 a37 v19 v20 v21 v22 v23 v24 v30 v31 v32 (v47 (z4 + 1).toNatClampNeg) h) gL_law_X9_receiptWord (by rfl) rfl rfl (by decide +kernel) ⟨⟨(Nat.le_of_ble_eq_true rfl), (Nat.le_of_ble_eq_true rfl)⟩, (Nat.le_trans (Nat.le_add_right _ _) hk.1), (Nat.le_trans (Nat.le_add_right _ _) hk.2)⟩ (Nat.le_of_ble_eq_true rfl) rfl rfl (sb_zr (sb_of [27, 33, 0, 1, 2, 3, 4, 5, 6, 7, 8, 9, 10, 11, 12, 13, 14, 15, 16, 17, 18, 19, 20, 21, 22, 23, 24, 25, 26, 28, 29, 30, 31, 32, 34, 35, 36, 37, 38, 39, 40, 41] rfl rfl)) rfl dL_law_2346 (fun v X1 hp => ?_)
    obtain ⟨r780, w781, rfl, rfl, h⟩ := hp
    refine xw_X (sb_rz (sb_of [2, 3, 4, 5, 6, 7, 8, 9, 10, 11, 12, 13, 14, 15, 16, 17, 18, 19, 20, 21, 22, 23, 24, 25, 26, 27, 28, 0, 29, 30, 31, 32, 33, 1, 34, 35, 36, 37, 38, 39, 40, 41] rfl rfl)) (show ww x (W_L_law (xg x) a0 a1 a2 a3 a4 a5 a6 a7 a8 a9 a10 a11 a12 a13 a14 a15 a16 a17 a18 a19 a20 a21 a22 a23 a24 a25 a26 a27 a28 a29 a30 a31 a32 a33 a34 a35 a36 a37 a38 a39 ab v0 v1 v2 v3 v4 v5 v6 v7 v8 v9 v10 v11 v12 v13 v14 v15 v16 v17 v18 w781 v20 v21 v22 v23 v24 v25 v26 v27 v28 v29 v30 v31 v32 v33 v34 v35 v36 v37 v38 v39 v40 v41 v42 v43 w777 v46 v47 ++ ZP (xg x) a39 v45) [(5, .int r776), (0, .ref ab), (1, .ref a0), (2, .ref a27), (3, .ref a38), (4, .int z4)] (k0 + 1) (n0 + 6) 2349 [.long r780] from ?_)
    refine xw_lstore hf (pc := 2349) dL_law_2349 [(6, .long r780), (5, .int r776), (0, .ref ab), (1, .ref a0), (2, .ref a27), (3, .ref a38), (4, .int z4)] hn (by decide) rfl ?_
    refine xw_aload_n hf (pc := 2351) dL_law_2351 rfl 4 rfl ?_
    refine xw_callV hf (pc := 2352) (nA := 0) (Xr := [(a0, .inr (8, [.ref a1, .ref a8, .ref a13, .ref a18, .ref a25])), (a1, .inr (2, [.ref a2, .ref a4, .ref a6])), (a2, .inr (7, [.ref a3, .int v0])), (a3, .inl (gJ (xg x), 60, .inr (.inl v1))), (a4, .inr (7, [.ref a5, .int v2])), (a5, .inl (gJ (xg x), 60, .inr (.inl v3))), (a6, .inr (3, [.ref a7])), (a7, .inl (gI (xg x), 32, .inl v4)), (a8, .inr (6, [.ref a9, .ref a11, .ref a12])), (a9, .inr (3, [.ref a10])), (a10, .inl (gI (xg x), 32, .inl v5)), (a11, .inl (gI (xg x), 32, .inl v6)), (a12, .inl (gI (xg x), 32, .inl v7)), (a13, .inr (1, [.ref a39, .ref a14, .ref a16, .int v8])), (a14, .inr (3, [.ref a15])), (a15, .inl (gI (xg x), 32, .inl v9)), (a16, .inr (3, [.ref a17])), (a17, .inl (gI (xg x), 32, .inl v10)), (a18, .inr (4, [.ref a19, .ref a21, .ref a23, .int v11, .int v12])), (a19, .inr (3, [.ref a20])), (a20, .inl (gI (xg x), 32, .inl v13)), (a21, .inr (7, [.ref a22, .int v14])), (a22, .inl (gJ (xg x), 60, .inr (.inl v15))), (a23, .inr (7, [.ref a24, .int v16])), (a24, .inl (gJ (xg x), 60, .inr (.inl v17))), (a25, .inr (3, [.ref a26])), (a26, .inl (gI (xg x), 32, .inl v18)), (a28, .inl (gJ (xg x), 60, .inr (.inl v25))), (a29, .inl (gI (xg x), 27, .inl v26)), (a30, .inl (gI (xg x), 27, .inl v27)), (a31, .inl (gI (xg x), 27, .inl v28)), (a32, .inl (gI (xg x), 27, .inl v29)), (v30, .inl (gJ (xg x), v31, .inr (.inl v32))), (v33, .inl (gI (xg x), v34, .inl v35)), (v36, .inl (gZ (xg x), v37, .inl v38)), (a33, .inl (gI (xg x), 12, .inl v39)), (a34, .inl (gI (xg x), 27, .inl v40)), (a35, .inl (gI (xg x), 27, .inl v41)), (a36, .inl (gI (xg x), 60, .inl v42)), (a37, .inl (gI (xg x), 3, .inl v43)), (a38, .inl (gJ (xg x), 1, .inr (.inl w777)))] ++ ZP (xg x) a39 v45) (rest := []) (T := TX9) (c_X9_thrown (xl x) (xg x) a27 a28 a29 a30 a31 a32 v30 v33 v36 a33 a34 a35 a36 a37 w781 v20 v21 v22 v23 v24 h) gL_law_X9_thrown (by rfl) rfl rfl (by decide +kernel) ⟨⟨(Nat.le_of_ble_eq_true rfl), (Nat.le_of_ble_eq_true rfl)⟩, (Nat.le_trans (Nat.le_add_right _ _) hk.1), (Nat.le_trans (Nat.le_add_right _ _) hk.2)⟩ (Nat.le_of_ble_eq_true rfl) rfl rfl (sb_zr (sb_of [27, 0, 1, 2, 3, 4, 5, 6, 7, 8, 9, 10, 11, 12, 13, 14, 15, 16, 17, 18, 19, 20, 21, 22, 23, 24, 25, 26, 28, 29, 30, 31, 32, 33, 34, 35, 36, 37, 38, 39, 40, 41] rfl rfl)) rfl dL_law_2352 (fun v X1 hp => ?_)
    obtain ⟨r782, rfl, rfl, h⟩ := hp
    refine xw_X (sb_rz (sb_of [1, 2, 3, 4, 5, 6, 7, 8, 9, 10, 11, 12, 13, 14, 15, 16, 17, 18, 19, 20, 21, 22, 23, 24, 25, 26, 27, 0, 28, 29, 30, 31, 32, 33, 34, 35, 36, 37, 38, 39, 40, 41] rfl rfl)) (show ww x (W_L_law (xg x) a0 a1 a2 a3 a4 a5 a6 a7 a8 a9 a10 a11 a12 a13 a14 a15 a16 a17 a18 a19 a20 a21 a22 a23 a24 a25 a26 a27 a28 a29 a30 a31 a32 a33 a34 a35 a36 a37 a38 a39 ab v0 v1 v2 v3 v4 v5 v6 v7 v8 v9 v10 v11 v12 v13 v14 v15 v16 v17 v18 w781 v20 v21 v22 v23 v24 v25 v26 v27 v28 v29 v30 v31 v32 v33 v34 v35 v36 v37 v38 v39 v40 v41 v42 v43 w777 v46 v47 ++ ZP (xg x) a39 v45) [(6, .long r780), (5, .int r776), (0, .ref ab), (1, .ref a0), (2, .ref a27), (3, .ref a38), (4, .int z4)] (k0 + 1) (n0 + 6) 2355 [.int r782] from ?_)
    refine xw_iload hf (pc := 2355) dL_law_2355 1 rfl ?_
    refine xw_icmp_eq hf (pc := 2357) dL_law_2357 (tgt := 2362) rfl ⟨fun c => ?_, fun c => ?_⟩
    · have h := h.1 c
      refine xw_iload hf (pc := 2362) dL_law_2362 1 rfl ?_
      refine xw_if_ne hf (pc := 2364) dL_law_2364 (c := r776 = 0) Iff.rfl (tgt := 2378) rfl ⟨fun c => ?_, fun c => ?_⟩
      · have h := h.1 c
        refine xw_aload_n hf (pc := 2367) dL_law_2367 rfl 5 rfl ?_
        refine xw_iconst hf (pc := 2368) dL_law_2368 (v := 0) (by decide) ?_
        refine xw_lald hf (pc := 2369) dL_law_2369 41 rfl h.1 ?_
        have h := h.2
        refine xw_lload hf (pc := 2370) dL_law_2370 0 rfl ?_
        refine xw_lcmp hf (pc := 2372) dL_law_2372 ?_
        refine xw_if_eq hf (pc := 2373) dL_law_2373 (c := (w777 (0 : Int32).toNatClampNeg) = r780) (lc_eq _ _) (tgt := 2378) rfl ⟨fun c => ?_, fun c => ?_⟩
        · have h := h.1 c
          refine xw_goto hf (pc := 2378) dL_law_2378 (tgt := 2681) rfl ?_
          refine xw_L [2, 3, 4, 5, 6] rfl ?_
          exact hK2681 _ _ _ _ hk _ _ h
        · have h := h.2 c
          refine xw_iconst hf (pc := 2376) dL_law_2376 (v := 0) (by decide) ?_
          exact h.elim
      · have h := h.2 c
        refine xw_goto hf (pc := 2378) dL_law_2378 (tgt := 2681) rfl ?_
        refine xw_L [2, 3, 4, 5, 6] rfl ?_
        exact hK2681 _ _ _ _ hk _ _ h
    · have h := h.2 c
      refine xw_iconst hf (pc := 2360) dL_law_2360 (v := 0) (by decide) ?_
      exact h.elim
