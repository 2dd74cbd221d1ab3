abbrev W_L_law (g : Gx) (a0 a1 a2 a3 a4 a5 a6 a7 a8 a9 a10 a11 a12 a13 a14 a15 a16 a17 a18 a19 a20 a21 a22 a23 a24 a25 a26 a27 a28 a29 a30 a31 a32 a33 a34 a35 a36 a37 a38 a39 ab : Nat) (v0 : Int32) (v1 : Nat → Int64) (v2 : Int32) (v3 : Nat → Int64) (v4 : Nat → Int32) (v5 : Nat → Int32) (v6 : Nat → Int32) (v7 : Nat → Int32) (v8 : Int32) (v9 : Nat → Int32) (v10 : Nat → Int32) (v11 : Int32) (v12 : Int32) (v13 : Nat → Int32) (v14 : Int32) (v15 : Nat → Int64) (v16 : Int32) (v17 : Nat → Int64) (v18 : Nat → Int32) (v19 : Int32) (v20 : Int32) (v21 : Int32) (v22 : Int32) (v23 : Int32) (v24 : Int32) (v25 : Nat → Int64) (v26 : Nat → Int32) (v27 : Nat → Int32) (v28 : Nat → Int32) (v29 : Nat → Int32) (v30 : Nat) (v31 : Nat) (v32 : Nat → Int64) (v33 : Nat) (v34 : Nat) (v35 : Nat → Int32) (v36 : Nat) (v37 : Nat) (v38 : Nat → Int32) (v39 : Nat → Int32) (v40 : Nat → Int32) (v41 : Nat → Int32) (v42 : Nat → Int32) (v43 : Nat → Int32) (v44 : Nat → Int64) (v46 : Nat) (v47 : Nat → Int32) : va_W := [(a0, .inr (8, [.ref a1, .ref a8, .ref a13, .ref a18, .ref a25])), (a1, .inr (2, [.ref a2, .ref a4, .ref a6])), (a2, .inr (7, [.ref a3, .int v0])), (a3, .inl (gJ g, 60, .inr (.inl v1))), (a4, .inr (7, [.ref a5, .int v2])), (a5, .inl (gJ g, 60, .inr (.inl v3))), (a6, .inr (3, [.ref a7])), (a7, .inl (gI g, 32, .inl v4)), (a8, .inr (6, [.ref a9, .ref a11, .ref a12])), (a9, .inr (3, [.ref a10])), (a10, .inl (gI g, 32, .inl v5)), (a11, .inl (gI g, 32, .inl v6)), (a12, .inl (gI g, 32, .inl v7)), (a13, .inr (1, [.ref a39, .ref a14, .ref a16, .int v8])), (a14, .inr (3, [.ref a15])), (a15, .inl (gI g, 32, .inl v9)), (a16, .inr (3, [.ref a17])), (a17, .inl (gI g, 32, .inl v10)), (a18, .inr (4, [.ref a19, .ref a21, .ref a23, .int v11, .int v12])), (a19, .inr (3, [.ref a20])), (a20, .inl (gI g, 32, .inl v13)), (a21, .inr (7, [.ref a22, .int v14])), (a22, .inl (gJ g, 60, .inr (.inl v15))), (a23, .inr (7, [.ref a24, .int v16])), (a24, .inl (gJ g, 60, .inr (.inl v17))), (a25, .inr (3, [.ref a26])), (a26, .inl (gI g, 32, .inl v18)), (a27, .inr (9, [.int v19, .ref a28, .int v20, .ref a29, .ref a30, .ref a31, .ref a32, .ref v30, .ref v33, .ref v36, .int v21, .int v22, .ref a33, .int v23, .ref a34, .ref a35, .ref a36, .ref a37, .int v24])), (a28, .inl (gJ g, 60, .inr (.inl v25))), (a29, .inl (gI g, 27, .inl v26)), (a30, .inl (gI g, 27, .inl v27)), (a31, .inl (gI g, 27, .inl v28)), (a32, .inl (gI g, 27, .inl v29)), (v30, .inl (gJ g, v31, .inr (.inl v32))), (v33, .inl (gI g, v34, .inl v35)), (v36, .inl (gZ g, v37, .inl v38)), (a33, .inl (gI g, 12, .inl v39)), (a34, .inl (gI g, 27, .inl v40)), (a35, .inl (gI g, 27, .inl v41)), (a36, .inl (gI g, 60, .inl v42)), (a37, .inl (gI g, 3, .inl v43)), (a38, .inl (gJ g, 1, .inr (.inl v44)))]
abbrev rm_L_law : Room := room_1
set_option maxRecDepth 20000 in
theorem mw_L_law_0 : (Cond.constantLong RL 123 (4294967295) : Cond) ∈ wsL_law := (List.mem_append_left _ (List.mem_append_left _ (List.mem_append_left _ (List.mem_append_left _ (List.mem_append_left _ (List.mem_append_left _ (List.mem_append_left _ (List.mem_append_left _ (List.mem_append_left _ (List.mem_append_left _ (List.mem_append_left _ (List.mem_append_left _ (List.mem_append_left _ (List.mem_append_left _ (List.mem_append_left _ (List.mem_append_left _ (List.mem_of_getElem? (l := wsL_law0_r1) (i := 7) rfl)))))))))))))))))
set_option maxHeartbeats 4000000 in
set_option maxRecDepth 100000 in
theorem w_L_law_L196 {x : Cx} {mc ms : Nat} (hf : fx x (rm_L_law) RL cL_law wsL_law) (hn : xn x = 8) {k0 n0 rc rs : Nat} (hk : k0 + rc ≤ (rm_L_law).cells ∧ n0 + rs ≤ (rm_L_law).slots) (a0 a1 a2 a3 a4 a5 a6 a7 a8 a9 a10 a11 a12 a13 a14 a15 a16 a17 a18 a19 a20 a21 a22 a23 a24 a25 a26 a27 a28 a29 a30 a31 a32 a33 a34 a35 a36 a37 a38 a39 ab : Nat) (z4 : Int32) (v21 : Int32) (v22 : Int32) (v23 : Int32) (v24 : Int32) (v46 : Nat) (v47 : Nat → Int32) (v2 : Int32) (v3 : Nat → Int64) (v4 : Nat → Int32) (v5 : Nat → Int32) (v6 : Nat → Int32) (v7 : Nat → Int32) (v8 : Int32) (v9 : Nat → Int32) (v10 : Nat → Int32) (v11 : Int32) (v12 : Int32) (v13 : Nat → Int32) (v14 : Int32) (v15 : Nat → Int64) (v16 : Int32) (v17 : Nat → Int64) (v18 : Nat → Int32) (v26 : Nat → Int32) (v27 : Nat → Int32) (v28 : Nat → Int32) (v29 : Nat → Int32) (v30 : Nat) (v31 : Nat) (v32 : Nat → Int64) (v33 : Nat) (v34 : Nat) (v35 : Nat → Int32) (v36 : Nat) (v37 : Nat) (v38 : Nat → Int32) (v39 : Nat → Int32) (v40 : Nat → Int32) (v41 : Nat → Int32) (v42 : Nat → Int32) (v43 : Nat → Int32) (v45 : ZL) {K2681 : Nat → Nat → Int32 → (Nat → Int64) → Int32 → Int32 → (Nat → Int64) → (Nat → Int64) → Prop} (hst : (xl x).stackTraces = false) (hX : sX x ab v46 v47)
    (n : Nat) (v0 : Int32) (v1 : Nat → Int64) (v19 : Int32) (v20 : Int32) (v25 : Nat → Int64) (v44 : Nat → Int64) (h : P_L_law_L196 z4 v21 v22 v23 v24 v46 v47 K2681 n rc rs v0 v1 v19 v20 v25 v44)
    (hK2681 : ∀ (k0 n0 rc rs : Nat), k0 + rc ≤ (rm_L_law).cells ∧ n0 + rs ≤ (rm_L_law).slots → ∀ (uv0 : Int32), ∀ (uv1 : Nat → Int64), ∀ (uv19 : Int32), ∀ (uv20 : Int32), ∀ (uv25 : Nat → Int64), ∀ (uv44 : Nat → Int64), K2681 rc rs uv0 uv1 uv19 uv20 uv25 uv44 → ww x (W_L_law (xg x) a0 a1 a2 a3 a4 a5 a6 a7 a8 a9 a10 a11 a12 a13 a14 a15 a16 a17 a18 a19 a20 a21 a22 a23 a24 a25 a26 a27 a28 a29 a30 a31 a32 a33 a34 a35 a36 a37 a38 a39 ab uv0 uv1 v2 v3 v4 v5 v6 v7 v8 v9 v10 v11 v12 v13 v14 v15 v16 v17 v18 uv19 uv20 v21 v22 v23 v24 uv25 v26 v27 v28 v29 v30 v31 v32 v33 v34 v35 v36 v37 v38 v39 v40 v41 v42 v43 uv44 v46 v47 ++ ZP (xg x) a39 v45) [(0, .ref ab), (1, .ref a0), (2, .ref a27), (3, .ref a38), (4, .int z4)] k0 n0 2681 []) :
    ww x (W_L_law (xg x) a0 a1 a2 a3 a4 a5 a6 a7 a8 a9 a10 a11 a12 a13 a14 a15 a16 a17 a18 a19 a20 a21 a22 a23 a24 a25 a26 a27 a28 a29 a30 a31 a32 a33 a34 a35 a36 a37 a38 a39 ab v0 v1 v2 v3 v4 v5 v6 v7 v8 v9 v10 v11 v12 v13 v14 v15 v16 v17 v18 v19 v20 v21 v22 v23 v24 v25 v26 v27 v28 v29 v30 v31 v32 v33 v34 v35 v36 v37 v38 v39 v40 v41 v42 v43 v44 v46 v47 ++ ZP (xg x) a39 v45) [(0, .ref ab), (1, .ref a0), (2, .ref a27), (3, .ref a38), (4, .int z4)] k0 n0 196 [] := by
  induction n generalizing k0 n0 rc rs v0 v1 v19 v20 v25 v44 with
  | zero => exact h.elim
  | succ n ih =>
    unfold P_L_law_L196 at h
    refine xw_aload_n hf (pc := 196) dL_law_196 rfl 1 rfl ?_
    refine xw_aload_n hf (pc := 197) dL_law_197 rfl 0 rfl ?_
    refine xw_iload hf (pc := 198) dL_law_198 4 rfl ?_
    refine xw_iconst hf (pc := 200) dL_law_200 (v := 1) (by decide) ?_
    refine xw_iadd hf (pc := 201) dL_law_201 ?_
    refine xw_sald hf hX dL_law_202 h.1 ?_
    have h := h.2
    refine xw_i2l hf (pc := 203) dL_law_203 ?_
    refine xw_bipush hf (pc := 204) dL_law_204 (v := 32) (by decide) ?_
    refine xw_lshl hf (pc := 206) dL_law_206 ?_
    refine xw_aload_n hf (pc := 207) dL_law_207 rfl 0 rfl ?_
    refine xw_iload hf (pc := 208) dL_law_208 4 rfl ?_
    refine xw_iconst hf (pc := 210) dL_law_210 (v := 2) (by decide) ?_
    refine xw_iadd hf (pc := 211) dL_law_211 ?_
    refine xw_sald hf hX dL_law_212 h.1 ?_
    have h := h.2
    refine xw_i2l hf (pc := 213) dL_law_213 ?_
    refine xw_ldc2 hf (pc := 214) dL_law_214 mw_L_law_0 ?_
    refine xw_land hf (pc := 217) dL_law_217 ?_
    refine xw_lor hf (pc := 218) dL_law_218 ?_
    refine xw_aload_n hf (pc := 219) dL_law_219 rfl 3 rfl ?_
    obtain ⟨mc5, ms6, ⟨hb1, hb2⟩, h⟩ := h
    refine xw_callSW hf (pc := 220) (nA := 3) (Xr := [(a4, .inr (7, [.ref a5, .int v2])), (a5, .inl (gJ (xg x), 60, .inr (.inl v3))), (a6, .inr (3, [.ref a7])), (a7, .inl (gI (xg x), 32, .inl v4)), (a8, .inr (6, [.ref a9, .ref a11, .ref a12])), (a9, .inr (3, [.ref a10])), (a10, .inl (gI (xg x), 32, .inl v5)), (a11, .inl (gI (xg x), 32, .inl v6)), (a12, .inl (gI (xg x), 32, .inl v7)), (a13, .inr (1, [.ref a39, .ref a14, .ref a16, .int v8])), (a14, .inr (3, [.ref a15])), (a15, .inl (gI (xg x), 32, .inl v9)), (a16, .inr (3, [.ref a17])), (a17, .inl (gI (xg x), 32, .inl v10)), (a18, .inr (4, [.ref a19, .ref a21, .ref a23, .int v11, .int v12])), (a19, .inr (3, [.ref a20])), (a20, .inl (gI (xg x), 32, .inl v13)), (a21, .inr (7, [.ref a22, .int v14])), (a22, .inl (gJ (xg x), 60, .inr (.inl v15))), (a23, .inr (7, [.ref a24, .int v16])), (a24, .inl (gJ (xg x), 60, .inr (.inl v17))), (a25, .inr (3, [.ref a26])), (a26, .inl (gI (xg x), 32, .inl v18)), (a27, .inr (9, [.int v19, .ref a28, .int v20, .ref a29, .ref a30, .ref a31, .ref a32, .ref v30, .ref v33, .ref v36, .int v21, .int v22, .ref a33, .int v23, .ref a34, .ref a35, .ref a36, .ref a37, .int v24])), (a28, .inl (gJ (xg x), 60, .inr (.inl v25))), (a29, .inl (gI (xg x), 27, .inl v26)), (a30, .inl (gI (xg x), 27, .inl v27)), (a31, .inl (gI (xg x), 27, .inl v28)), (a32, .inl (gI (xg x), 27, .inl v29)), (v30, .inl (gJ (xg x), v31, .inr (.inl v32))), (v33, .inl (gI (xg x), v34, .inl v35)), (v36, .inl (gZ (xg x), v37, .inl v38)), (a33, .inl (gI (xg x), 12, .inl v39)), (a34, .inl (gI (xg x), 27, .inl v40)), (a35, .inl (gI (xg x), 27, .inl v41)), (a36, .inl (gI (xg x), 60, .inl v42)), (a37, .inl (gI (xg x), 3, .inl v43))] ++ ZP (xg x) a39 v45) (rest := []) (c_L_addWord (xl x) (xg x) hst a0 a1 a2 a3 a38 a8 a13 a18 a25 a4 a6 v0 v1 v44 ((((v47 (z4 + 1).toNatClampNeg).toInt64) <<< ((32 : Int32).toInt64 &&& 63)) ||| (((v47 (z4 + 2).toNatClampNeg).toInt64) &&& 4294967295)) h) gL_law_L_addWord (by rfl) rfl (by decide +kernel) ⟨⟨(Nat.le_of_ble_eq_true rfl), (Nat.le_of_ble_eq_true rfl)⟩, (Nat.le_trans (show k0 + 2 ≤ k0 + rc by omega) hk.1), (Nat.le_trans (show n0 + 12 ≤ n0 + rs by omega) hk.2)⟩ (Nat.le_of_ble_eq_true rfl) (sb_zr (sb_of [0, 1, 2, 3, 41, 4, 5, 6, 7, 8, 9, 10, 11, 12, 13, 14, 15, 16, 17, 18, 19, 20, 21, 22, 23, 24, 25, 26, 27, 28, 29, 30, 31, 32, 33, 34, 35, 36, 37, 38, 39, 40] rfl rfl)) rfl dL_law_220 (fun v X1 hp => ?_)
    obtain ⟨r1, w2, w3, w4, rfl, rfl, h⟩ := hp
    have hk : k0 + 2 + mc5 ≤ (rm_L_law).cells ∧ n0 + 12 + ms6 ≤ (rm_L_law).slots := ⟨Nat.le_trans (show k0 + 2 + mc5 ≤ k0 + rc by omega) hk.1, Nat.le_trans (show n0 + 12 + ms6 ≤ n0 + rs by omega) hk.2⟩
    refine xw_X (sb_rz (sb_of [0, 1, 2, 3, 5, 6, 7, 8, 9, 10, 11, 12, 13, 14, 15, 16, 17, 18, 19, 20, 21, 22, 23, 24, 25, 26, 27, 28, 29, 30, 31, 32, 33, 34, 35, 36, 37, 38, 39, 40, 41, 4] rfl rfl)) (show ww x (W_L_law (xg x) a0 a1 a2 a3 a4 a5 a6 a7 a8 a9 a10 a11 a12 a13 a14 a15 a16 a17 a18 a19 a20 a21 a22 a23 a24 a25 a26 a27 a28 a29 a30 a31 a32 a33 a34 a35 a36 a37 a38 a39 ab w2 w3 v2 v3 v4 v5 v6 v7 v8 v9 v10 v11 v12 v13 v14 v15 v16 v17 v18 v19 v20 v21 v22 v23 v24 v25 v26 v27 v28 v29 v30 v31 v32 v33 v34 v35 v36 v37 v38 v39 v40 v41 v42 v43 w4 v46 v47 ++ ZP (xg x) a39 v45) [(0, .ref ab), (1, .ref a0), (2, .ref a27), (3, .ref a38), (4, .int z4)] (k0 + 2) (n0 + 12) 223 [.int r1] from ?_)
    refine xw_istore hf (pc := 223) dL_law_223 [(5, .int r1), (0, .ref ab), (1, .ref a0), (2, .ref a27), (3, .ref a38), (4, .int z4)] hn (by decide) rfl ?_
    refine xw_aload_n hf (pc := 225) dL_law_225 rfl 3 rfl ?_
    refine xw_aload_n hf (pc := 226) dL_law_226 rfl 1 rfl ?_
    refine xw_iload hf (pc := 227) dL_law_227 5 rfl ?_
    refine xw_iconst hf (pc := 229) dL_law_229 (v := 1) (by decide) ?_
    refine xw_iadd hf (pc := 230) dL_law_230 ?_
    refine xw_sald hf hX dL_law_231 h.1 ?_
    have h := h.2
    refine xw_i2l hf (pc := 232) dL_law_232 ?_
    refine xw_bipush hf (pc := 233) dL_law_233 (v := 32) (by decide) ?_
    refine xw_lshl hf (pc := 235) dL_law_235 ?_
    refine xw_aload_n hf (pc := 236) dL_law_236 rfl 1 rfl ?_
    refine xw_iload hf (pc := 237) dL_law_237 5 rfl ?_
    refine xw_iconst hf (pc := 239) dL_law_239 (v := 2) (by decide) ?_
    refine xw_iadd hf (pc := 240) dL_law_240 ?_
    refine xw_sald hf hX dL_law_241 h.1 ?_
    have h := h.2
    refine xw_i2l hf (pc := 242) dL_law_242 ?_
    refine xw_ldc2 hf (pc := 243) dL_law_243 mw_L_law_0 ?_
    refine xw_land hf (pc := 246) dL_law_246 ?_
    refine xw_lor hf (pc := 247) dL_law_247 ?_
    refine xw_callV hf (pc := 248) (nA := 1) (Xr := [(a0, .inr (8, [.ref a1, .ref a8, .ref a13, .ref a18, .ref a25])), (a1, .inr (2, [.ref a2, .ref a4, .ref a6])), (a2, .inr (7, [.ref a3, .int w2])), (a3, .inl (gJ (xg x), 60, .inr (.inl w3))), (a4, .inr (7, [.ref a5, .int v2])), (a5, .inl (gJ (xg x), 60, .inr (.inl v3))), (a6, .inr (3, [.ref a7])), (a7, .inl (gI (xg x), 32, .inl v4)), (a8, .inr (6, [.ref a9, .ref a11, .ref a12])), (a9, .inr (3, [.ref a10])), (a10, .inl (gI (xg x), 32, .inl v5)), (a11, .inl (gI (xg x), 32, .inl v6)), (a12, .inl (gI (xg x), 32, .inl v7)), (a13, .inr (1, [.ref a39, .ref a14, .ref a16, .int v8])), (a14, .inr (3, [.ref a15])), (a15, .inl (gI (xg x), 32, .inl v9)), (a16, .inr (3, [.ref a17])), (a17, .inl (gI (xg x), 32, .inl v10)), (a18, .inr (4, [.ref a19, .ref a21, .ref a23, .int v11, .int v12])), (a19, .inr (3, [.ref a20])), (a20, .inl (gI (xg x), 32, .inl v13)), (a21, .inr (7, [.ref a22, .int v14])), (a22, .inl (gJ (xg x), 60, .inr (.inl v15))), (a23, .inr (7, [.ref a24, .int v16])), (a24, .inl (gJ (xg x), 60, .inr (.inl v17))), (a25, .inr (3, [.ref a26])), (a26, .inl (gI (xg x), 32, .inl v18)), (a29, .inl (gI (xg x), 27, .inl v26)), (a30, .inl (gI (xg x), 27, .inl v27)), (a31, .inl (gI (xg x), 27, .inl v28)), (a32, .inl (gI (xg x), 27, .inl v29)), (v30, .inl (gJ (xg x), v31, .inr (.inl v32))), (v33, .inl (gI (xg x), v34, .inl v35)), (v36, .inl (gZ (xg x), v37, .inl v38)), (a33, .inl (gI (xg x), 12, .inl v39)), (a34, .inl (gI (xg x), 27, .inl v40)), (a35, .inl (gI (xg x), 27, .inl v41)), (a36, .inl (gI (xg x), 60, .inl v42)), (a37, .inl (gI (xg x), 3, .inl v43)), (a38, .inl (gJ (xg x), 1, .inr (.inl w4)))] ++ ZP (xg x) a39 v45) (rest := []) (T := TX9) (c_X9_addWord (xl x) (xg x) a27 a28 a29 a30 a31 a32 v30 v33 v36 a33 a34 a35 a36 a37 v19 v20 v21 v22 v23 v24 v25 ((((v47 (z4 + 1).toNatClampNeg).toInt64) <<< ((32 : Int32).toInt64 &&& 63)) ||| (((v47 (z4 + 2).toNatClampNeg).toInt64) &&& 4294967295)) h) gL_law_X9_addWord (by rfl) rfl rfl (by decide +kernel) ⟨⟨(Nat.le_of_ble_eq_true rfl), (Nat.le_of_ble_eq_true rfl)⟩, (Nat.le_trans (Nat.le_add_right _ _) hk.1), (Nat.le_trans (Nat.le_add_right _ _) hk.2)⟩ (Nat.le_of_ble_eq_true rfl) rfl rfl (sb_zr (sb_of [27, 28, 0, 1, 2, 3, 4, 5, 6, 7, 8, 9, 10, 11, 12, 13, 14, 15, 16, 17, 18, 19, 20, 21, 22, 23, 24, 25, 26, 29, 30, 31, 32, 33, 34, 35, 36, 37, 38, 39, 40, 41] rfl rfl)) rfl dL_law_248 (fun v X1 hp => ?_)
    obtain ⟨r7, w8, w9, w10, rfl, rfl, h⟩ := hp
    refine xw_X (sb_rz (sb_of [2, 3, 4, 5, 6, 7, 8, 9, 10, 11, 12, 13, 14, 15, 16, 17, 18, 19, 20, 21, 22, 23, 24, 25, 26, 27, 28, 0, 1, 29, 30, 31, 32, 33, 34, 35, 36, 37, 38, 39, 40, 41] rfl rfl)) (show ww x (W_L_law (xg x) a0 a1 a2 a3 a4 a5 a6 a7 a8 a9 a10 a11 a12 a13 a14 a15 a16 a17 a18 a19 a20 a21 a22 a23 a24 a25 a26 a27 a28 a29 a30 a31 a32 a33 a34 a35 a36 a37 a38 a39 ab w2 w3 v2 v3 v4 v5 v6 v7 v8 v9 v10 v11 v12 v13 v14 v15 v16 v17 v18 w8 w9 v21 v22 v23 v24 w10 v26 v27 v28 v29 v30 v31 v32 v33 v34 v35 v36 v37 v38 v39 v40 v41 v42 v43 w4 v46 v47 ++ ZP (xg x) a39 v45) [(5, .int r1), (0, .ref ab), (1, .ref a0), (2, .ref a27), (3, .ref a38), (4, .int z4)] (k0 + 2) (n0 + 12) 251 [.int r7] from ?_)
    refine xw_istore hf (pc := 251) dL_law_251 [(6, .int r7), (5, .int r1), (0, .ref ab), (1, .ref a0), (2, .ref a27), (3, .ref a38), (4, .int z4)] hn (by decide) rfl ?_
    refine xw_aload_n hf (pc := 253) dL_law_253 rfl 4 rfl ?_
    refine xw_callV hf (pc := 254) (nA := 0) (Xr := [(a0, .inr (8, [.ref a1, .ref a8, .ref a13, .ref a18, .ref a25])), (a1, .inr (2, [.ref a2, .ref a4, .ref a6])), (a2, .inr (7, [.ref a3, .int w2])), (a3, .inl (gJ (xg x), 60, .inr (.inl w3))), (a4, .inr (7, [.ref a5, .int v2])), (a5, .inl (gJ (xg x), 60, .inr (.inl v3))), (a6, .inr (3, [.ref a7])), (a7, .inl (gI (xg x), 32, .inl v4)), (a8, .inr (6, [.ref a9, .ref a11, .ref a12])), (a9, .inr (3, [.ref a10])), (a10, .inl (gI (xg x), 32, .inl v5)), (a11, .inl (gI (xg x), 32, .inl v6)), (a12, .inl (gI (xg x), 32, .inl v7)), (a13, .inr (1, [.ref a39, .ref a14, .ref a16, .int v8])), (a14, .inr (3, [.ref a15])), (a15, .inl (gI (xg x), 32, .inl v9)), (a16, .inr (3, [.ref a17])), (a17, .inl (gI (xg x), 32, .inl v10)), (a18, .inr (4, [.ref a19, .ref a21, .ref a23, .int v11, .int v12])), (a19, .inr (3, [.ref a20])), (a20, .inl (gI (xg x), 32, .inl v13)), (a21, .inr (7, [.ref a22, .int v14])), (a22, .inl (gJ (xg x), 60, .inr (.inl v15))), (a23, .inr (7, [.ref a24, .int v16])), (a24, .inl (gJ (xg x), 60, .inr (.inl v17))), (a25, .inr (3, [.ref a26])), (a26, .inl (gI (xg x), 32, .inl v18)), (a28, .inl (gJ (xg x), 60, .inr (.inl w10))), (a29, .inl (gI (xg x), 27, .inl v26)), (a30, .inl (gI (xg x), 27, .inl v27)), (a31, .inl (gI (xg x), 27, .inl v28)), (a32, .inl (gI (xg x), 27, .inl v29)), (v30, .inl (gJ (xg x), v31, .inr (.inl v32))), (v33, .inl (gI (xg x), v34, .inl v35)), (v36, .inl (gZ (xg x), v37, .inl v38)), (a33, .inl (gI (xg x), 12, .inl v39)), (a34, .inl (gI (xg x), 27, .inl v40)), (a35, .inl (gI (xg x), 27, .inl v41)), (a36, .inl (gI (xg x), 60, .inl v42)), (a37, .inl (gI (xg x), 3, .inl v43)), (a38, .inl (gJ (xg x), 1, .inr (.inl w4)))] ++ ZP (xg x) a39 v45) (rest := []) (T := TX9) (c_X9_thrown (xl x) (xg x) a27 a28 a29 a30 a31 a32 v30 v33 v36 a33 a34 a35 a36 a37 w8 w9 v21 v22 v23 v24 h) gL_law_X9_thrown (by rfl) rfl rfl (by decide +kernel) ⟨⟨(Nat.le_of_ble_eq_true rfl), (Nat.le_of_ble_eq_true rfl)⟩, (Nat.le_trans (Nat.le_add_right _ _) hk.1), (Nat.le_trans (Nat.le_add_right _ _) hk.2)⟩ (Nat.le_of_ble_eq_true rfl) rfl rfl (sb_zr (sb_of [27, 0, 1, 2, 3, 4, 5, 6, 7, 8, 9, 10, 11, 12, 13, 14, 15, 16, 17, 18, 19, 20, 21, 22, 23, 24, 25, 26, 28, 29, 30, 31, 32, 33, 34, 35, 36, 37, 38, 39, 40, 41] rfl rfl)) rfl dL_law_254 (fun v X1 hp => ?_)
    obtain ⟨r11, rfl, rfl, h⟩ := hp
    refine xw_X (sb_rz (sb_of [1, 2, 3, 4, 5, 6, 7, 8, 9, 10, 11, 12, 13, 14, 15, 16, 17, 18, 19, 20, 21, 22, 23, 24, 25, 26, 27, 0, 28, 29, 30, 31, 32, 33, 34, 35, 36, 37, 38, 39, 40, 41] rfl rfl)) (show ww x (W_L_law (xg x) a0 a1 a2 a3 a4 a5 a6 a7 a8 a9 a10 a11 a12 a13 a14 a15 a16 a17 a18 a19 a20 a21 a22 a23 a24 a25 a26 a27 a28 a29 a30 a31 a32 a33 a34 a35 a36 a37 a38 a39 ab w2 w3 v2 v3 v4 v5 v6 v7 v8 v9 v10 v11 v12 v13 v14 v15 v16 v17 v18 w8 w9 v21 v22 v23 v24 w10 v26 v27 v28 v29 v30 v31 v32 v33 v34 v35 v36 v37 v38 v39 v40 v41 v42 v43 w4 v46 v47 ++ ZP (xg x) a39 v45) [(6, .int r7), (5, .int r1), (0, .ref ab), (1, .ref a0), (2, .ref a27), (3, .ref a38), (4, .int z4)] (k0 + 2) (n0 + 12) 257 [.int r11] from ?_)
    refine xw_iload hf (pc := 257) dL_law_257 1 rfl ?_
    refine xw_icmp_eq hf (pc := 259) dL_law_259 (tgt := 264) rfl ⟨fun c => ?_, fun c => ?_⟩
    · have h := h.1 c
      refine xw_iload hf (pc := 264) dL_law_264 1 rfl ?_
      refine xw_if_ne hf (pc := 266) dL_law_266 (c := r1 = 0) Iff.rfl (tgt := 281) rfl ⟨fun c => ?_, fun c => ?_⟩
      · have h := h.1 c
        refine xw_aload_n hf (pc := 269) dL_law_269 rfl 5 rfl ?_
        refine xw_iconst hf (pc := 270) dL_law_270 (v := 0) (by decide) ?_
        refine xw_lald hf (pc := 271) dL_law_271 41 rfl h.1 ?_
        have h := h.2
        refine xw_iload hf (pc := 272) dL_law_272 0 rfl ?_
        refine xw_i2l hf (pc := 274) dL_law_274 ?_
        refine xw_lcmp hf (pc := 275) dL_law_275 ?_
        refine xw_if_eq hf (pc := 276) dL_law_276 (c := (w4 (0 : Int32).toNatClampNeg) = r7.toInt64) (lc_eq _ _) (tgt := 281) rfl ⟨fun c => ?_, fun c => ?_⟩
        · have h := h.1 c
          refine xw_goto hf (pc := 281) dL_law_281 (tgt := 2681) rfl ?_
          refine xw_L [2, 3, 4, 5, 6] rfl ?_
          exact hK2681 _ _ _ _ hk _ _ _ _ _ _ h
        · have h := h.2 c
          refine xw_iconst hf (pc := 279) dL_law_279 (v := 0) (by decide) ?_
          exact h.elim
      · have h := h.2 c
        refine xw_goto hf (pc := 281) dL_law_281 (tgt := 2681) rfl ?_
        refine xw_L [2, 3, 4, 5, 6] rfl ?_
        exact hK2681 _ _ _ _ hk _ _ _ _ _ _ h
    · have h := h.2 c
      refine xw_iconst hf (pc := 262) dL_law_262 (v := 0) (by decide) ?_
      exact h.elim
set_option maxHeartbeats 4000000 in
set_option maxRecDepth 100000 in
theorem w_L_law_L284 {x : Cx} {mc ms : Nat} (hf : fx x (rm_L_law) RL cL_law wsL_law) (hn : xn x = 8) {k0 n0 rc rs : Nat} (hk : k0 + rc ≤ (rm_L_law).cells ∧ n0 + rs ≤ (rm_L_law).slots) (a0 a1 a2 a3 a4 a5 a6 a7 a8 a9 a10 a11 a12 a13 a14 a15 a16 a17 a18 a19 a20 a21 a22 a23 a24 a25 a26 a27 a28 a29 a30 a31 a32 a33 a34 a35 a36 a37 a38 a39 ab : Nat) (z4 : Int32) (v21 : Int32) (v22 : Int32) (v23 : Int32) (v24 : Int32) (v46 : Nat) (v47 : Nat → Int32) (v2 : Int32) (v3 : Nat → Int64) (v4 : Nat → Int32) (v5 : Nat → Int32) (v6 : Nat → Int32) (v7 : Nat → Int32) (v8 : Int32) (v9 : Nat → Int32) (v10 : Nat → Int32) (v11 : Int32) (v12 : Int32) (v13 : Nat → Int32) (v14 : Int32) (v15 : Nat → Int64) (v16 : Int32) (v17 : Nat → Int64) (v18 : Nat → Int32) (v26 : Nat → Int32) (v27 : Nat → Int32) (v28 : Nat → Int32) (v29 : Nat → Int32) (v30 : Nat) (v31 : Nat) (v32 : Nat → Int64) (v33 : Nat) (v34 : Nat) (v35 : Nat → Int32) (v36 : Nat) (v37 : Nat) (v38 : Nat → Int32) (v39 : Nat → Int32) (v40 : Nat → Int32) (v41 : Nat → Int32) (v42 : Nat → Int32) (v43 : Nat → Int32) (v45 : ZL) {K2681 : Nat → Nat → Int32 → (Nat → Int64) → Int32 → Int32 → (Nat → Int64) → (Nat → Int64) → Prop} (hst : (xl x).stackTraces = false) (hX : sX x ab v46 v47)
    (n : Nat) (v0 : Int32) (v1 : Nat → Int64) (v19 : Int32) (v20 : Int32) (v25 : Nat → Int64) (v44 : Nat → Int64) (h : P_L_law_L284 z4 v21 v22 v23 v24 v46 v47 K2681 n rc rs v0 v1 v19 v20 v25 v44)
    (hK2681 : ∀ (k0 n0 rc rs : Nat), k0 + rc ≤ (rm_L_law).cells ∧ n0 + rs ≤ (rm_L_law).slots → ∀ (uv0 : Int32), ∀ (uv1 : Nat → Int64), ∀ (uv19 : Int32), ∀ (uv20 : Int32), ∀ (uv25 : Nat → Int64), ∀ (uv44 : Nat → Int64), K2681 rc rs uv0 uv1 uv19 uv20 uv25 uv44 → ww x (W_L_law (xg x) a0 a1 a2 a3 a4 a5 a6 a7 a8 a9 a10 a11 a12 a13 a14 a15 a16 a17 a18 a19 a20 a21 a22 a23 a24 a25 a26 a27 a28 a29 a30 a31 a32 a33 a34 a35 a36 a37 a38 a39 ab uv0 uv1 v2 v3 v4 v5 v6 v7 v8 v9 v10 v11 v12 v13 v14 v15 v16 v17 v18 uv19 uv20 v21 v22 v23 v24 uv25 v26 v27 v28 v29 v30 v31 v32 v33 v34 v35 v36 v37 v38 v39 v40 v41 v42 v43 uv44 v46 v47 ++ ZP (xg x) a39 v45) [(0, .ref ab), (1, .ref a0), (2, .ref a27), (3, .ref a38), (4, .int z4)] k0 n0 2681 []) :
    ww x (W_L_law (xg x) a0 a1 a2 a3 a4 a5 a6 a7 a8 a9 a10 a11 a12 a13 a14 a15 a16 a17 a18 a19 a20 a21 a22 a23 a24 a25 a26 a27 a28 a29 a30 a31 a32 a33 a34 a35 a36 a37 a38 a39 ab v0 v1 v2 v3 v4 v5 v6 v7 v8 v9 v10 v11 v12 v13 v14 v15 v16 v17 v18 v19 v20 v21 v22 v23 v24 v25 v26 v27 v28 v29 v30 v31 v32 v33 v34 v35 v36 v37 v38 v39 v40 v41 v42 v43 v44 v46 v47 ++ ZP (xg x) a39 v45) [(0, .ref ab), (1, .ref a0), (2, .ref a27), (3, .ref a38), (4, .int z4)] k0 n0 284 [] := by
  induction n generalizing k0 n0 rc rs v0 v1 v19 v20 v25 v44 with
  | zero => exact h.elim
  | succ n ih =>
    unfold P_L_law_L284 at h
    refine xw_aload_n hf (pc := 284) dL_law_284 rfl 1 rfl ?_
    refine xw_aload_n hf (pc := 285) dL_law_285 rfl 0 rfl ?_
    refine xw_iload hf (pc := 286) dL_law_286 4 rfl ?_
    refine xw_iconst hf (pc := 288) dL_law_288 (v := 1) (by decide) ?_
    refine xw_iadd hf (pc := 289) dL_law_289 ?_
    refine xw_sald hf hX dL_law_290 h.1 ?_
    have h := h.2
    refine xw_i2l hf (pc := 291) dL_law_291 ?_
    refine xw_bipush hf (pc := 292) dL_law_292 (v := 32) (by decide) ?_
    refine xw_lshl hf (pc := 294) dL_law_294 ?_
    refine xw_aload_n hf (pc := 295) dL_law_295 rfl 0 rfl ?_
    refine xw_iload hf (pc := 296) dL_law_296 4 rfl ?_
    refine xw_iconst hf (pc := 298) dL_law_298 (v := 2) (by decide) ?_
    refine xw_iadd hf (pc := 299) dL_law_299 ?_
    refine xw_sald hf hX dL_law_300 h.1 ?_
    have h := h.2
    refine xw_i2l hf (pc := 301) dL_law_301 ?_
    refine xw_ldc2 hf (pc := 302) dL_law_302 mw_L_law_0 ?_
    refine xw_land hf (pc := 305) dL_law_305 ?_
    refine xw_lor hf (pc := 306) dL_law_306 ?_
    refine xw_aload_n hf (pc := 307) dL_law_307 rfl 3 rfl ?_
    obtain ⟨mc26, ms27, ⟨hb1, hb2⟩, h⟩ := h
    refine xw_callSW hf (pc := 308) (nA := 3) (Xr := [(a4, .inr (7, [.ref a5, .int v2])), (a5, .inl (gJ (xg x), 60, .inr (.inl v3))), (a6, .inr (3, [.ref a7])), (a7, .inl (gI (xg x), 32, .inl v4)), (a8, .inr (6, [.ref a9, .ref a11, .ref a12])), (a9, .inr (3, [.ref a10])), (a10, .inl (gI (xg x), 32, .inl v5)), (a11, .inl (gI (xg x), 32, .inl v6)), (a12, .inl (gI (xg x), 32, .inl v7)), (a13, .inr (1, [.ref a39, .ref a14, .ref a16, .int v8])), (a14, .inr (3, [.ref a15])), (a15, .inl (gI (xg x), 32, .inl v9)), (a16, .inr (3, [.ref a17])), (a17, .inl (gI (xg x), 32, .inl v10)), (a18, .inr (4, [.ref a19, .ref a21, .ref a23, .int v11, .int v12])), (a19, .inr (3, [.ref a20])), (a20, .inl (gI (xg x), 32, .inl v13)), (a21, .inr (7, [.ref a22, .int v14])), (a22, .inl (gJ (xg x), 60, .inr (.inl v15))), (a23, .inr (7, [.ref a24, .int v16])), (a24, .inl (gJ (xg x), 60, .inr (.inl v17))), (a25, .inr (3, [.ref a26])), (a26, .inl (gI (xg x), 32, .inl v18)), (a27, .inr (9, [.int v19, .ref a28, .int v20, .ref a29, .ref a30, .ref a31, .ref a32, .ref v30, .ref v33, .ref v36, .int v21, .int v22, .ref a33, .int v23, .ref a34, .ref a35, .ref a36, .ref a37, .int v24])), (a28, .inl (gJ (xg x), 60, .inr (.inl v25))), (a29, .inl (gI (xg x), 27, .inl v26)), (a30, .inl (gI (xg x), 27, .inl v27)), (a31, .inl (gI (xg x), 27, .inl v28)), (a32, .inl (gI (xg x), 27, .inl v29)), (v30, .inl (gJ (xg x), v31, .inr (.inl v32))), (v33, .inl (gI (xg x), v34, .inl v35)), (v36, .inl (gZ (xg x), v37, .inl v38)), (a33, .inl (gI (xg x), 12, .inl v39)), (a34, .inl (gI (xg x), 27, .inl v40)), (a35, .inl (gI (xg x), 27, .inl v41)), (a36, .inl (gI (xg x), 60, .inl v42)), (a37, .inl (gI (xg x), 3, .inl v43))] ++ ZP (xg x) a39 v45) (rest := []) (c_L_removeWord (xl x) (xg x) hst a0 a1 a2 a3 a38 a8 a13 a18 a25 a4 a6 v0 v1 v44 ((((v47 (z4 + 1).toNatClampNeg).toInt64) <<< ((32 : Int32).toInt64 &&& 63)) ||| (((v47 (z4 + 2).toNatClampNeg).toInt64) &&& 4294967295)) h) gL_law_L_removeWord (by rfl) rfl (by decide +kernel) ⟨⟨(Nat.le_of_ble_eq_true rfl), (Nat.le_of_ble_eq_true rfl)⟩, (Nat.le_trans (show k0 + 2 ≤ k0 + rc by omega) hk.1), (Nat.le_trans (show n0 + 12 ≤ n0 + rs by omega) hk.2)⟩ (Nat.le_of_ble_eq_true rfl) (sb_zr (sb_of [0, 1, 2, 3, 41, 4, 5, 6, 7, 8, 9, 10, 11, 12, 13, 14, 15, 16, 17, 18, 19, 20, 21, 22, 23, 24, 25, 26, 27, 28, 29, 30, 31, 32, 33, 34, 35, 36, 37, 38, 39, 40] rfl rfl)) rfl dL_law_308 (fun v X1 hp => ?_)
    obtain ⟨r22, w23, w24, w25, rfl, rfl, h⟩ := hp
    have hk : k0 + 2 + mc26 ≤ (rm_L_law).cells ∧ n0 + 12 + ms27 ≤ (rm_L_law).slots := ⟨Nat.le_trans (show k0 + 2 + mc26 ≤ k0 + rc by omega) hk.1, Nat.le_trans (show n0 + 12 + ms27 ≤ n0 + rs by omega) hk.2⟩
    refine xw_X (sb_rz (sb_of [0, 1, 2, 3, 5, 6, 7, 8, 9, 10, 11, 12, 13, 14, 15, 16, 17, 18, 19, 20, 21, 22, 23, 24, 25, 26, 27, 28, 29, 30, 31, 32, 33, 34, 35, 36, 37, 38, 39, 40, 41, 4] rfl rfl)) (show ww x (W_L_law (xg x) a0 a1 a2 a3 a4 a5 a6 a7 a8 a9 a10 a11 a12 a13 a14 a15 a16 a17 a18 a19 a20 a21 a22 a23 a24 a25 a26 a27 a28 a29 a30 a31 a32 a33 a34 a35 a36 a37 a38 a39 ab w23 w24 v2 v3 v4 v5 v6 v7 v8 v9 v10 v11 v12 v13 v14 v15 v16 v17 v18 v19 v20 v21 v22 v23 v24 v25 v26 v27 v28 v29 v30 v31 v32 v33 v34 v35 v36 v37 v38 v39 v40 v41 v42 v43 w25 v46 v47 ++ ZP (xg x) a39 v45) [(0, .ref ab), (1, .ref a0), (2, .ref a27), (3, .ref a38), (4, .int z4)] (k0 + 2) (n0 + 12) 311 [.int r22] from ?_)
    refine xw_istore hf (pc := 311) dL_law_311 [(5, .int r22), (0, .ref ab), (1, .ref a0), (2, .ref a27), (3, .ref a38), (4, .int z4)] hn (by decide) rfl ?_
    refine xw_aload_n hf (pc := 313) dL_law_313 rfl 3 rfl ?_
    refine xw_aload_n hf (pc := 314) dL_law_314 rfl 1 rfl ?_
    refine xw_iload hf (pc := 315) dL_law_315 5 rfl ?_
    refine xw_iconst hf (pc := 317) dL_law_317 (v := 1) (by decide) ?_
    refine xw_iadd hf (pc := 318) dL_law_318 ?_
    refine xw_sald hf hX dL_law_319 h.1 ?_
    have h := h.2
    refine xw_i2l hf (pc := 320) dL_law_320 ?_
    refine xw_bipush hf (pc := 321) dL_law_321 (v := 32) (by decide) ?_
    refine xw_lshl hf (pc := 323) dL_law_323 ?_
    refine xw_aload_n hf (pc := 324) dL_law_324 rfl 1 rfl ?_
    refine xw_iload hf (pc := 325) dL_law_325 5 rfl ?_
    refine xw_iconst hf (pc := 327) dL_law_327 (v := 2) (by decide) ?_
    refine xw_iadd hf (pc := 328) dL_law_328 ?_
    refine xw_sald hf hX dL_law_329 h.1 ?_
    have h := h.2
    refine xw_i2l hf (pc := 330) dL_law_330 ?_
    refine xw_ldc2 hf (pc := 331) dL_law_331 mw_L_law_0 ?_
    refine xw_land hf (pc := 334) dL_law_334 ?_
    refine xw_lor hf (pc := 335) dL_law_335 ?_
    refine xw_callV hf (pc := 336) (nA := 1) (Xr := [(a0, .inr (8, [.ref a1, .ref a8, .ref a13, .ref a18, .ref a25])), (a1, .inr (2, [.ref a2, .ref a4, .ref a6])), (a2, .inr (7, [.ref a3, .int w23])), (a3, .inl (gJ (xg x), 60, .inr (.inl w24))), (a4, .inr (7, [.ref a5, .int v2])), (a5, .inl (gJ (xg x), 60, .inr (.inl v3))), (a6, .inr (3, [.ref a7])), (a7, .inl (gI (xg x), 32, .inl v4)), (a8, .inr (6, [.ref a9, .ref a11, .ref a12])), (a9, .inr (3, [.ref a10])), (a10, .inl (gI (xg x), 32, .inl v5)), (a11, .inl (gI (xg x), 32, .inl v6)), (a12, .inl (gI (xg x), 32, .inl v7)), (a13, .inr (1, [.ref a39, .ref a14, .ref a16, .int v8])), (a14, .inr (3, [.ref a15])), (a15, .inl (gI (xg x), 32, .inl v9)), (a16, .inr (3, [.ref a17])), (a17, .inl (gI (xg x), 32, .inl v10)), (a18, .inr (4, [.ref a19, .ref a21, .ref a23, .int v11, .int v12])), (a19, .inr (3, [.ref a20])), (a20, .inl (gI (xg x), 32, .inl v13)), (a21, .inr (7, [.ref a22, .int v14])), (a22, .inl (gJ (xg x), 60, .inr (.inl v15))), (a23, .inr (7, [.ref a24, .int v16])), (a24, .inl (gJ (xg x), 60, .inr (.inl v17))), (a25, .inr (3, [.ref a26])), (a26, .inl (gI (xg x), 32, .inl v18)), (a29, .inl (gI (xg x), 27, .inl v26)), (a30, .inl (gI (xg x), 27, .inl v27)), (a31, .inl (gI (xg x), 27, .inl v28)), (a32, .inl (gI (xg x), 27, .inl v29)), (v30, .inl (gJ (xg x), v31, .inr (.inl v32))), (v33, .inl (gI (xg x), v34, .inl v35)), (v36, .inl (gZ (xg x), v37, .inl v38)), (a33, .inl (gI (xg x), 12, .inl v39)), (a34, .inl (gI (xg x), 27, .inl v40)), (a35, .inl (gI (xg x), 27, .inl v41)), (a36, .inl (gI (xg x), 60, .inl v42)), (a37, .inl (gI (xg x), 3, .inl v43)), (a38, .inl (gJ (xg x), 1, .inr (.inl w25)))] ++ ZP (xg x) a39 v45) (rest := []) (T := TX9) (c_X9_removeWord (xl x) (xg x) a27 a28 a29 a30 a31 a32 v30 v33 v36 a33 a34 a35 a36 a37 v19 v20 v21 v22 v23 v24 v25 ((((v47 (z4 + 1).toNatClampNeg).toInt64) <<< ((32 : Int32).toInt64 &&& 63)) ||| (((v47 (z4 + 2).toNatClampNeg).toInt64) &&& 4294967295)) h) gL_law_X9_removeWord (by rfl) rfl rfl (by decide +kernel) ⟨⟨(Nat.le_of_ble_eq_true rfl), (Nat.le_of_ble_eq_true rfl)⟩, (Nat.le_trans (Nat.le_add_right _ _) hk.1), (Nat.le_trans (Nat.le_add_right _ _) hk.2)⟩ (Nat.le_of_ble_eq_true rfl) rfl rfl (sb_zr (sb_of [27, 28, 0, 1, 2, 3, 4, 5, 6, 7, 8, 9, 10, 11, 12, 13, 14, 15, 16, 17, 18, 19, 20, 21, 22, 23, 24, 25, 26, 29, 30, 31, 32, 33, 34, 35, 36, 37, 38, 39, 40, 41] rfl rfl)) rfl dL_law_336 (fun v X1 hp => ?_)
    obtain ⟨r28, w29, w30, w31, rfl, rfl, h⟩ := hp
    refine xw_X (sb_rz (sb_of [2, 3, 4, 5, 6, 7, 8, 9, 10, 11, 12, 13, 14, 15, 16, 17, 18, 19, 20, 21, 22, 23, 24, 25, 26, 27, 28, 0, 1, 29, 30, 31, 32, 33, 34, 35, 36, 37, 38, 39, 40, 41] rfl rfl)) (show ww x (W_L_law (xg x) a0 a1 a2 a3 a4 a5 a6 a7 a8 a9 a10 a11 a12 a13 a14 a15 a16 a17 a18 a19 a20 a21 a22 a23 a24 a25 a26 a27 a28 a29 a30 a31 a32 a33 a34 a35 a36 a37 a38 a39 ab w23 w24 v2 v3 v4 v5 v6 v7 v8 v9 v10 v11 v12 v13 v14 v15 v16 v17 v18 w29 w30 v21 v22 v23 v24 w31 v26 v27 v28 v29 v30 v31 v32 v33 v34 v35 v36 v37 v38 v39 v40 v41 v42 v43 w25 v46 v47 ++ ZP (xg x) a39 v45) [(5, .int r22), (0, .ref ab), (1, .ref a0), (2, .ref a27), (3, .ref a38), (4, .int z4)] (k0 + 2) (n0 + 12) 339 [.int r28] from ?_)
    refine xw_istore hf (pc := 339) dL_law_339 [(6, .int r28), (5, .int r22), (0, .ref ab), (1, .ref a0), (2, .ref a27), (3, .ref a38), (4, .int z4)] hn (by decide) rfl ?_
    refine xw_aload_n hf (pc := 341) dL_law_341 rfl 4 rfl ?_
    refine xw_callV hf (pc := 342) (nA := 0) (Xr := [(a0, .inr (8, [.ref a1, .ref a8, .ref a13, .ref a18, .ref a25])), (a1, .inr (2, [.ref a2, .ref a4, .ref a6])), (a2, .inr (7, [.ref a3, .int w23])), (a3, .inl (gJ (xg x), 60, .inr (.inl w24))), (a4, .inr (7, [.ref a5, .int v2])), (a5, .inl (gJ (xg x), 60, .inr (.inl v3))), (a6, .inr (3, [.ref a7])), (a7, .inl (gI (xg x), 32, .inl v4)), (a8, .inr (6, [.ref a9, .ref a11, .ref a12])), (a9, .inr (3, [.ref a10])), (a10, .inl (gI (xg x), 32, .inl v5)), (a11, .inl (gI (xg x), 32, .inl v6)), (a12, .inl (gI (xg x), 32, .inl v7)), (a13, .inr (1, [.ref a39, .ref a14, .ref a16, .int v8])), (a14, .inr (3, [.ref a15])), (a15, .inl (gI (xg x), 32, .inl v9)), (a16, .inr (3, [.ref a17])), (a17, .inl (gI (xg x), 32, .inl v10)), (a18, .inr (4, [.ref a19, .ref a21, .ref a23, .int v11, .int v12])), (a19, .inr (3, [.ref a20])), (a20, .inl (gI (xg x), 32, .inl v13)), (a21, .inr (7, [.ref a22, .int v14])), (a22, .inl (gJ (xg x), 60, .inr (.inl v15))), (a23, .inr (7, [.ref a24, .int v16])), (a24, .inl (gJ (xg x), 60, .inr (.inl v17))), (a25, .inr (3, [.ref a26])), (a26, .inl (gI (xg x), 32, .inl v18)), (a28, .inl (gJ (xg x), 60, .inr (.inl w31))), (a29, .inl (gI (xg x), 27, .inl v26)), (a30, .inl (gI (xg x), 27, .inl v27)), (a31, .inl (gI (xg x), 27, .inl v28)), (a32, .inl (gI (xg x), 27, .inl v29)), (v30, .inl (gJ (xg x), v31, .inr (.inl v32))), (v33, .inl (gI (xg x), v34, .inl v35)), (v36, .inl (gZ (xg x), v37, .inl v38)), (a33, .inl (gI (xg x), 12, .inl v39)), (a34, .inl (gI (xg x), 27, .inl v40)), (a35, .inl (gI (xg x), 27, .inl v41)), (a36, .inl (gI (xg x), 60, .inl v42)), (a37, .inl (gI (xg x), 3, .inl v43)), (a38, .inl (gJ (xg x), 1, .inr (.inl w25)))] ++ ZP (xg x) a39 v45) (rest := []) (T := TX9) (c_X9_thrown (xl x) (xg x) a27 a28 a29 a30 a31 a32 v30 v33 v36 a33 a34 a35 a36 a37 w29 w30 v21 v22 v23 v24 h) gL_law_X9_thrown (by rfl) rfl rfl (by decide +kernel) ⟨⟨(Nat.le_of_ble_eq_true rfl), (Nat.le_of_ble_eq_true rfl)⟩, (Nat.le_trans (Nat.le_add_right _ _) hk.1), (Nat.le_trans (Nat.le_add_right _ _) hk.2)⟩ (Nat.le_of_ble_eq_true rfl) rfl rfl (sb_zr (sb_of [27, 0, 1, 2, 3, 4, 5, 6, 7, 8, 9, 10, 11, 12, 13, 14, 15, 16, 17, 18, 19, 20, 21, 22, 23, 24, 25, 26, 28, 29, 30, 31, 32, 33, 34, 35, 36, 37, 38, 39, 40, 41] rfl rfl)) rfl dL_law_342 (fun v X1 hp => ?_)
    obtain ⟨r32, rfl, rfl, h⟩ := hp
    refine xw_X (sb_rz (sb_of [1, 2, 3, 4, 5, 6, 7, 8, 9, 10, 11, 12, 13, 14, 15, 16, 17, 18, 19, 20, 21, 22, 23, 24, 25, 26, 27, 0, 28, 29, 30, 31, 32, 33, 34, 35, 36, 37, 38, 39, 40, 41] rfl rfl)) (show ww x (W_L_law (xg x) a0 a1 a2 a3 a4 a5 a6 a7 a8 a9 a10 a11 a12 a13 a14 a15 a16 a17 a18 a19 a20 a21 a22 a23 a24 a25 a26 a27 a28 a29 a30 a31 a32 a33 a34 a35 a36 a37 a38 a39 ab w23 w24 v2 v3 v4 v5 v6 v7 v8 v9 v10 v11 v12 v13 v14 v15 v16 v17 v18 w29 w30 v21 v22 v23 v24 w31 v26 v27 v28 v29 v30 v31 v32 v33 v34 v35 v36 v37 v38 v39 v40 v41 v42 v43 w25 v46 v47 ++ ZP (xg x) a39 v45) [(6, .int r28), (5, .int r22), (0, .ref ab), (1, .ref a0), (2, .ref a27), (3, .ref a38), (4, .int z4)] (k0 + 2) (n0 + 12) 345 [.int r32] from ?_)
    refine xw_iload hf (pc := 345) dL_law_345 1 rfl ?_
    refine xw_icmp_eq hf (pc := 347) dL_law_347 (tgt := 352) rfl ⟨fun c => ?_, fun c => ?_⟩
    · have h := h.1 c
      refine xw_iload hf (pc := 352) dL_law_352 1 rfl ?_
      refine xw_if_ne hf (pc := 354) dL_law_354 (c := r22 = 0) Iff.rfl (tgt := 369) rfl ⟨fun c => ?_, fun c => ?_⟩
      · have h := h.1 c
        refine xw_aload_n hf (pc := 357) dL_law_357 rfl 5 rfl ?_
        refine xw_iconst hf (pc := 358) dL_law_358 (v := 0) (by decide) ?_
        refine xw_lald hf (pc := 359) dL_law_359 41 rfl h.1 ?_
        have h := h.2
        refine xw_iload hf (pc := 360) dL_law_360 0 rfl ?_
        refine xw_i2l hf (pc := 362) dL_law_362 ?_
        refine xw_lcmp hf (pc := 363) dL_law_363 ?_
        refine xw_if_eq hf (pc := 364) dL_law_364 (c := (w25 (0 : Int32).toNatClampNeg) = r28.toInt64) (lc_eq _ _) (tgt := 369) rfl ⟨fun c => ?_, fun c => ?_⟩
        · have h := h.1 c
          refine xw_goto hf (pc := 369) dL_law_369 (tgt := 2681) rfl ?_
          refine xw_L [2, 3, 4, 5, 6] rfl ?_
          exact hK2681 _ _ _ _ hk _ _ _ _ _ _ h
        · have h := h.2 c
          refine xw_iconst hf (pc := 367) dL_law_367 (v := 0) (by decide) ?_
          exact h.elim
      · have h := h.2 c
        refine xw_goto hf (pc := 369) dL_law_369 (tgt := 2681) rfl ?_
        refine xw_L [2, 3, 4, 5, 6] rfl ?_
        exact hK2681 _ _ _ _ hk _ _ _ _ _ _ h
    · have h := h.2 c
      refine xw_iconst hf (pc := 350) dL_law_350 (v := 0) (by decide) ?_
      exact h.elim
set_option maxHeartbeats 4000000 in
set_option maxRecDepth 100000 in
theorem w_L_law_L372 {x : Cx} {mc ms : Nat} (hf : fx x (rm_L_law) RL cL_law wsL_law) (hn : xn x = 8) {k0 n0 rc rs : Nat} (hk : k0 + rc ≤ (rm_L_law).cells ∧ n0 + rs ≤ (rm_L_law).slots) (a0 a1 a2 a3 a4 a5 a6 a7 a8 a9 a10 a11 a12 a13 a14 a15 a16 a17 a18 a19 a20 a21 a22 a23 a24 a25 a26 a27 a28 a29 a30 a31 a32 a33 a34 a35 a36 a37 a38 a39 ab : Nat) (z4 : Int32) (v0 : Int32) (v20 : Int32) (v21 : Int32) (v22 : Int32) (v23 : Int32) (v24 : Int32) (v1 : Nat → Int64) (v2 : Int32) (v3 : Nat → Int64) (v4 : Nat → Int32) (v5 : Nat → Int32) (v6 : Nat → Int32) (v7 : Nat → Int32) (v8 : Int32) (v9 : Nat → Int32) (v10 : Nat → Int32) (v11 : Int32) (v12 : Int32) (v13 : Nat → Int32) (v14 : Int32) (v15 : Nat → Int64) (v16 : Int32) (v17 : Nat → Int64) (v18 : Nat → Int32) (v25 : Nat → Int64) (v26 : Nat → Int32) (v27 : Nat → Int32) (v28 : Nat → Int32) (v29 : Nat → Int32) (v30 : Nat) (v31 : Nat) (v32 : Nat → Int64) (v33 : Nat) (v34 : Nat) (v35 : Nat → Int32) (v36 : Nat) (v37 : Nat) (v38 : Nat → Int32) (v39 : Nat → Int32) (v40 : Nat → Int32) (v41 : Nat → Int32) (v42 : Nat → Int32) (v43 : Nat → Int32) (v44 : Nat → Int64) (v45 : ZL) (v46 : Nat) (v47 : Nat → Int32) {K2681 : Nat → Nat → Int32 → Prop} (hst : (xl x).stackTraces = false) (hX : sX x ab v46 v47)
    (n : Nat) (v19 : Int32) (h : P_L_law_L372 z4 v0 v20 v21 v22 v23 v24 K2681 n rc rs v19)
    (hK2681 : ∀ (k0 n0 rc rs : Nat), k0 + rc ≤ (rm_L_law).cells ∧ n0 + rs ≤ (rm_L_law).slots → ∀ (uv19 : Int32), K2681 rc rs uv19 → ww x (W_L_law (xg x) a0 a1 a2 a3 a4 a5 a6 a7 a8 a9 a10 a11 a12 a13 a14 a15 a16 a17 a18 a19 a20 a21 a22 a23 a24 a25 a26 a27 a28 a29 a30 a31 a32 a33 a34 a35 a36 a37 a38 a39 ab v0 v1 v2 v3 v4 v5 v6 v7 v8 v9 v10 v11 v12 v13 v14 v15 v16 v17 v18 uv19 v20 v21 v22 v23 v24 v25 v26 v27 v28 v29 v30 v31 v32 v33 v34 v35 v36 v37 v38 v39 v40 v41 v42 v43 v44 v46 v47 ++ ZP (xg x) a39 v45) [(0, .ref ab), (1, .ref a0), (2, .ref a27), (3, .ref a38), (4, .int z4)] k0 n0 2681 []) :
    ww x (W_L_law (xg x) a0 a1 a2 a3 a4 a5 a6 a7 a8 a9 a10 a11 a12 a13 a14 a15 a16 a17 a18 a19 a20 a21 a22 a23 a24 a25 a26 a27 a28 a29 a30 a31 a32 a33 a34 a35 a36 a37 a38 a39 ab v0 v1 v2 v3 v4 v5 v6 v7 v8 v9 v10 v11 v12 v13 v14 v15 v16 v17 v18 v19 v20 v21 v22 v23 v24 v25 v26 v27 v28 v29 v30 v31 v32 v33 v34 v35 v36 v37 v38 v39 v40 v41 v42 v43 v44 v46 v47 ++ ZP (xg x) a39 v45) [(0, .ref ab), (1, .ref a0), (2, .ref a27), (3, .ref a38), (4, .int z4)] k0 n0 372 [] := by
  induction n generalizing k0 n0 rc rs v19 with
  | zero => exact h.elim
  | succ n ih =>
    unfold P_L_law_L372 at h
    refine xw_aload_n hf (pc := 372) dL_law_372 rfl 1 rfl ?_
    refine xw_callV hf (pc := 373) (nA := 0) (Xr := [(a3, .inl (gJ (xg x), 60, .inr (.inl v1))), (a4, .inr (7, [.ref a5, .int v2])), (a5, .inl (gJ (xg x), 60, .inr (.inl v3))), (a6, .inr (3, [.ref a7])), (a7, .inl (gI (xg x), 32, .inl v4)), (a8, .inr (6, [.ref a9, .ref a11, .ref a12])), (a9, .inr (3, [.ref a10])), (a10, .inl (gI (xg x), 32, .inl v5)), (a11, .inl (gI (xg x), 32, .inl v6)), (a12, .inl (gI (xg x), 32, .inl v7)), (a13, .inr (1, [.ref a39, .ref a14, .ref a16, .int v8])), (a14, .inr (3, [.ref a15])), (a15, .inl (gI (xg x), 32, .inl v9)), (a16, .inr (3, [.ref a17])), (a17, .inl (gI (xg x), 32, .inl v10)), (a18, .inr (4, [.ref a19, .ref a21, .ref a23, .int v11, .int v12])), (a19, .inr (3, [.ref a20])), (a20, .inl (gI (xg x), 32, .inl v13)), (a21, .inr (7, [.ref a22, .int v14])), (a22, .inl (gJ (xg x), 60, .inr (.inl v15))), (a23, .inr (7, [.ref a24, .int v16])), (a24, .inl (gJ (xg x), 60, .inr (.inl v17))), (a25, .inr (3, [.ref a26])), (a26, .inl (gI (xg x), 32, .inl v18)), (a27, .inr (9, [.int v19, .ref a28, .int v20, .ref a29, .ref a30, .ref a31, .ref a32, .ref v30, .ref v33, .ref v36, .int v21, .int v22, .ref a33, .int v23, .ref a34, .ref a35, .ref a36, .ref a37, .int v24])), (a28, .inl (gJ (xg x), 60, .inr (.inl v25))), (a29, .inl (gI (xg x), 27, .inl v26)), (a30, .inl (gI (xg x), 27, .inl v27)), (a31, .inl (gI (xg x), 27, .inl v28)), (a32, .inl (gI (xg x), 27, .inl v29)), (v30, .inl (gJ (xg x), v31, .inr (.inl v32))), (v33, .inl (gI (xg x), v34, .inl v35)), (v36, .inl (gZ (xg x), v37, .inl v38)), (a33, .inl (gI (xg x), 12, .inl v39)), (a34, .inl (gI (xg x), 27, .inl v40)), (a35, .inl (gI (xg x), 27, .inl v41)), (a36, .inl (gI (xg x), 60, .inl v42)), (a37, .inl (gI (xg x), 3, .inl v43)), (a38, .inl (gJ (xg x), 1, .inr (.inl v44)))] ++ ZP (xg x) a39 v45) (rest := []) (T := TX8) (c_X8_wordCount (xl x) (xg x) a0 a1 a2 a8 a13 a18 a25 a4 a6 a3 v0 h) gL_law_X8_wordCount (by rfl) rfl rfl (by decide +kernel) ⟨⟨(Nat.le_of_ble_eq_true rfl), (Nat.le_of_ble_eq_true rfl)⟩, (Nat.le_trans (Nat.le_add_right _ _) hk.1), (Nat.le_trans (Nat.le_add_right _ _) hk.2)⟩ (Nat.le_of_ble_eq_true rfl) rfl rfl (sb_zr (sb_of [0, 1, 2, 3, 4, 5, 6, 7, 8, 9, 10, 11, 12, 13, 14, 15, 16, 17, 18, 19, 20, 21, 22, 23, 24, 25, 26, 27, 28, 29, 30, 31, 32, 33, 34, 35, 36, 37, 38, 39, 40, 41] rfl rfl)) rfl dL_law_373 (fun v X1 hp => ?_)
    obtain ⟨r43, rfl, rfl, h⟩ := hp
    refine xw_X (sb_rz (sb_of [0, 1, 2, 3, 4, 5, 6, 7, 8, 9, 10, 11, 12, 13, 14, 15, 16, 17, 18, 19, 20, 21, 22, 23, 24, 25, 26, 27, 28, 29, 30, 31, 32, 33, 34, 35, 36, 37, 38, 39, 40, 41] rfl rfl)) (show ww x (W_L_law (xg x) a0 a1 a2 a3 a4 a5 a6 a7 a8 a9 a10 a11 a12 a13 a14 a15 a16 a17 a18 a19 a20 a21 a22 a23 a24 a25 a26 a27 a28 a29 a30 a31 a32 a33 a34 a35 a36 a37 a38 a39 ab v0 v1 v2 v3 v4 v5 v6 v7 v8 v9 v10 v11 v12 v13 v14 v15 v16 v17 v18 v19 v20 v21 v22 v23 v24 v25 v26 v27 v28 v29 v30 v31 v32 v33 v34 v35 v36 v37 v38 v39 v40 v41 v42 v43 v44 v46 v47 ++ ZP (xg x) a39 v45) [(0, .ref ab), (1, .ref a0), (2, .ref a27), (3, .ref a38), (4, .int z4)] k0 n0 376 [.int r43] from ?_)
    refine xw_aload_n hf (pc := 376) dL_law_376 rfl 2 rfl ?_
    refine xw_callV hf (pc := 377) (nA := 0) (Xr := [(a0, .inr (8, [.ref a1, .ref a8, .ref a13, .ref a18, .ref a25])), (a1, .inr (2, [.ref a2, .ref a4, .ref a6])), (a2, .inr (7, [.ref a3, .int v0])), (a3, .inl (gJ (xg x), 60, .inr (.inl v1))), (a4, .inr (7, [.ref a5, .int v2])), (a5, .inl (gJ (xg x), 60, .inr (.inl v3))), (a6, .inr (3, [.ref a7])), (a7, .inl (gI (xg x), 32, .inl v4)), (a8, .inr (6, [.ref a9, .ref a11, .ref a12])), (a9, .inr (3, [.ref a10])), (a10, .inl (gI (xg x), 32, .inl v5)), (a11, .inl (gI (xg x), 32, .inl v6)), (a12, .inl (gI (xg x), 32, .inl v7)), (a13, .inr (1, [.ref a39, .ref a14, .ref a16, .int v8])), (a14, .inr (3, [.ref a15])), (a15, .inl (gI (xg x), 32, .inl v9)), (a16, .inr (3, [.ref a17])), (a17, .inl (gI (xg x), 32, .inl v10)), (a18, .inr (4, [.ref a19, .ref a21, .ref a23, .int v11, .int v12])), (a19, .inr (3, [.ref a20])), (a20, .inl (gI (xg x), 32, .inl v13)), (a21, .inr (7, [.ref a22, .int v14])), (a22, .inl (gJ (xg x), 60, .inr (.inl v15))), (a23, .inr (7, [.ref a24, .int v16])), (a24, .inl (gJ (xg x), 60, .inr (.inl v17))), (a25, .inr (3, [.ref a26])), (a26, .inl (gI (xg x), 32, .inl v18)), (a28, .inl (gJ (xg x), 60, .inr (.inl v25))), (a29, .inl (gI (xg x), 27, .inl v26)), (a30, .inl (gI (xg x), 27, .inl v27)), (a31, .inl (gI (xg x), 27, .inl v28)), (a32, .inl (gI (xg x), 27, .inl v29)), (v30, .inl (gJ (xg x), v31, .inr (.inl v32))), (v33, .inl (gI (xg x), v34, .inl v35)), (v36, .inl (gZ (xg x), v37, .inl v38)), (a33, .inl (gI (xg x), 12, .inl v39)), (a34, .inl (gI (xg x), 27, .inl v40)), (a35, .inl (gI (xg x), 27, .inl v41)), (a36, .inl (gI (xg x), 60, .inl v42)), (a37, .inl (gI (xg x), 3, .inl v43)), (a38, .inl (gJ (xg x), 1, .inr (.inl v44)))] ++ ZP (xg x) a39 v45) (rest := [.int r43]) (T := TX9) (c_X9_wordCount (xl x) (xg x) a27 a28 a29 a30 a31 a32 v30 v33 v36 a33 a34 a35 a36 a37 v19 v20 v21 v22 v23 v24 h) gL_law_X9_wordCount (by rfl) rfl rfl (by decide +kernel) ⟨⟨(Nat.le_of_ble_eq_true rfl), (Nat.le_of_ble_eq_true rfl)⟩, (Nat.le_trans (Nat.le_add_right _ _) hk.1), (Nat.le_trans (Nat.le_add_right _ _) hk.2)⟩ (Nat.le_of_ble_eq_true rfl) rfl rfl (sb_zr (sb_of [27, 0, 1, 2, 3, 4, 5, 6, 7, 8, 9, 10, 11, 12, 13, 14, 15, 16, 17, 18, 19, 20, 21, 22, 23, 24, 25, 26, 28, 29, 30, 31, 32, 33, 34, 35, 36, 37, 38, 39, 40, 41] rfl rfl)) rfl dL_law_377 (fun v X1 hp => ?_)
    obtain ⟨r44, w45, rfl, rfl, h⟩ := hp
    refine xw_X (sb_rz (sb_of [1, 2, 3, 4, 5, 6, 7, 8, 9, 10, 11, 12, 13, 14, 15, 16, 17, 18, 19, 20, 21, 22, 23, 24, 25, 26, 27, 0, 28, 29, 30, 31, 32, 33, 34, 35, 36, 37, 38, 39, 40, 41] rfl rfl)) (show ww x (W_L_law (xg x) a0 a1 a2 a3 a4 a5 a6 a7 a8 a9 a10 a11 a12 a13 a14 a15 a16 a17 a18 a19 a20 a21 a22 a23 a24 a25 a26 a27 a28 a29 a30 a31 a32 a33 a34 a35 a36 a37 a38 a39 ab v0 v1 v2 v3 v4 v5 v6 v7 v8 v9 v10 v11 v12 v13 v14 v15 v16 v17 v18 w45 v20 v21 v22 v23 v24 v25 v26 v27 v28 v29 v30 v31 v32 v33 v34 v35 v36 v37 v38 v39 v40 v41 v42 v43 v44 v46 v47 ++ ZP (xg x) a39 v45) [(0, .ref ab), (1, .ref a0), (2, .ref a27), (3, .ref a38), (4, .int z4)] k0 n0 380 [.int r44, .int r43] from ?_)
    refine xw_icmp_eq hf (pc := 380) dL_law_380 (tgt := 2681) rfl ⟨fun c => ?_, fun c => ?_⟩
    · have h := h.1 c
      refine xw_L [0, 1, 2, 3, 4] rfl ?_
      exact hK2681 _ _ _ _ hk _ h
    · have h := h.2 c
      refine xw_iconst hf (pc := 383) dL_law_383 (v := 0) (by decide) ?_
      exact h.elim
set_option maxHeartbeats 4000000 in
set_option maxRecDepth 100000 in
theorem w_L_law_L385 {x : Cx} {mc ms : Nat} (hf : fx x (rm_L_law) RL cL_law wsL_law) (hn : xn x = 8) {k0 n0 rc rs : Nat} (hk : k0 + rc ≤ (rm_L_law).cells ∧ n0 + rs ≤ (rm_L_law).slots) (a0 a1 a2 a3 a4 a5 a6 a7 a8 a9 a10 a11 a12 a13 a14 a15 a16 a17 a18 a19 a20 a21 a22 a23 a24 a25 a26 a27 a28 a29 a30 a31 a32 a33 a34 a35 a36 a37 a38 a39 ab : Nat) (z4 : Int32) (v0 : Int32) (v1 : Nat → Int64) (v20 : Int32) (v21 : Int32) (v22 : Int32) (v23 : Int32) (v24 : Int32) (v25 : Nat → Int64) (v40 : Nat → Int32) (v46 : Nat) (v47 : Nat → Int32) (v2 : Int32) (v3 : Nat → Int64) (v4 : Nat → Int32) (v5 : Nat → Int32) (v6 : Nat → Int32) (v7 : Nat → Int32) (v8 : Int32) (v9 : Nat → Int32) (v10 : Nat → Int32) (v11 : Int32) (v12 : Int32) (v13 : Nat → Int32) (v14 : Int32) (v15 : Nat → Int64) (v16 : Int32) (v17 : Nat → Int64) (v18 : Nat → Int32) (v26 : Nat → Int32) (v27 : Nat → Int32) (v28 : Nat → Int32) (v29 : Nat → Int32) (v30 : Nat) (v31 : Nat) (v32 : Nat → Int64) (v33 : Nat) (v34 : Nat) (v35 : Nat → Int32) (v36 : Nat) (v37 : Nat) (v38 : Nat → Int32) (v39 : Nat → Int32) (v41 : Nat → Int32) (v42 : Nat → Int32) (v43 : Nat → Int32) (v45 : ZL) {K2681 : Nat → Nat → Int32 → (Nat → Int64) → Prop} (hst : (xl x).stackTraces = false) (hX : sX x ab v46 v47)
    (n : Nat) (v19 : Int32) (v44 : Nat → Int64) (h : P_L_law_L385 z4 v0 v1 v20 v21 v22 v23 v24 v25 v40 v46 v47 K2681 n rc rs v19 v44)
    (hK2681 : ∀ (k0 n0 rc rs : Nat), k0 + rc ≤ (rm_L_law).cells ∧ n0 + rs ≤ (rm_L_law).slots → ∀ (uv19 : Int32), ∀ (uv44 : Nat → Int64), K2681 rc rs uv19 uv44 → ww x (W_L_law (xg x) a0 a1 a2 a3 a4 a5 a6 a7 a8 a9 a10 a11 a12 a13 a14 a15 a16 a17 a18 a19 a20 a21 a22 a23 a24 a25 a26 a27 a28 a29 a30 a31 a32 a33 a34 a35 a36 a37 a38 a39 ab v0 v1 v2 v3 v4 v5 v6 v7 v8 v9 v10 v11 v12 v13 v14 v15 v16 v17 v18 uv19 v20 v21 v22 v23 v24 v25 v26 v27 v28 v29 v30 v31 v32 v33 v34 v35 v36 v37 v38 v39 v40 v41 v42 v43 uv44 v46 v47 ++ ZP (xg x) a39 v45) [(0, .ref ab), (1, .ref a0), (2, .ref a27), (3, .ref a38), (4, .int z4)] k0 n0 2681 []) :
    ww x (W_L_law (xg x) a0 a1 a2 a3 a4 a5 a6 a7 a8 a9 a10 a11 a12 a13 a14 a15 a16 a17 a18 a19 a20 a21 a22 a23 a24 a25 a26 a27 a28 a29 a30 a31 a32 a33 a34 a35 a36 a37 a38 a39 ab v0 v1 v2 v3 v4 v5 v6 v7 v8 v9 v10 v11 v12 v13 v14 v15 v16 v17 v18 v19 v20 v21 v22 v23 v24 v25 v26 v27 v28 v29 v30 v31 v32 v33 v34 v35 v36 v37 v38 v39 v40 v41 v42 v43 v44 v46 v47 ++ ZP (xg x) a39 v45) [(0, .ref ab), (1, .ref a0), (2, .ref a27), (3, .ref a38), (4, .int z4)] k0 n0 385 [] := by
  induction n generalizing k0 n0 rc rs v19 v44 with
  | zero => exact h.elim
  | succ n ih =>
    unfold P_L_law_L385 at h
    refine xw_aload_n hf (pc := 385) dL_law_385 rfl 1 rfl ?_
    refine xw_aload_n hf (pc := 386) dL_law_386 rfl 0 rfl ?_
    refine xw_iload hf (pc := 387) dL_law_387 4 rfl ?_
    refine xw_iconst hf (pc := 389) dL_law_389 (v := 1) (by decide) ?_
    refine xw_iadd hf (pc := 390) dL_law_390 ?_
    refine xw_sald hf hX dL_law_391 h.1 ?_
    have h := h.2
    refine xw_aload_n hf (pc := 392) dL_law_392 rfl 3 rfl ?_
    obtain ⟨mc53, ms54, ⟨hb1, hb2⟩, h⟩ := h
    refine xw_callSW hf (pc := 393) (nA := 3) (Xr := [(a4, .inr (7, [.ref a5, .int v2])), (a5, .inl (gJ (xg x), 60, .inr (.inl v3))), (a6, .inr (3, [.ref a7])), (a7, .inl (gI (xg x), 32, .inl v4)), (a8, .inr (6, [.ref a9, .ref a11, .ref a12])), (a9, .inr (3, [.ref a10])), (a10, .inl (gI (xg x), 32, .inl v5)), (a11, .inl (gI (xg x), 32, .inl v6)), (a12, .inl (gI (xg x), 32, .inl v7)), (a13, .inr (1, [.ref a39, .ref a14, .ref a16, .int v8])), (a14, .inr (3, [.ref a15])), (a15, .inl (gI (xg x), 32, .inl v9)), (a16, .inr (3, [.ref a17])), (a17, .inl (gI (xg x), 32, .inl v10)), (a18, .inr (4, [.ref a19, .ref a21, .ref a23, .int v11, .int v12])), (a19, .inr (3, [.ref a20])), (a20, .inl (gI (xg x), 32, .inl v13)), (a21, .inr (7, [.ref a22, .int v14])), (a22, .inl (gJ (xg x), 60, .inr (.inl v15))), (a23, .inr (7, [.ref a24, .int v16])), (a24, .inl (gJ (xg x), 60, .inr (.inl v17))), (a25, .inr (3, [.ref a26])), (a26, .inl (gI (xg x), 32, .inl v18)), (a27, .inr (9, [.int v19, .ref a28, .int v20, .ref a29, .ref a30, .ref a31, .ref a32, .ref v30, .ref v33, .ref v36, .int v21, .int v22, .ref a33, .int v23, .ref a34, .ref a35, .ref a36, .ref a37, .int v24])), (a28, .inl (gJ (xg x), 60, .inr (.inl v25))), (a29, .inl (gI (xg x), 27, .inl v26)), (a30, .inl (gI (xg x), 27, .inl v27)), (a31, .inl (gI (xg x), 27, .inl v28)), (a32, .inl (gI (xg x), 27, .inl v29)), (v30, .inl (gJ (xg x), v31, .inr (.inl v32))), (v33, .inl (gI (xg x), v34, .inl v35)), (v36, .inl (gZ (xg x), v37, .inl v38)), (a33, .inl (gI (xg x), 12, .inl v39)), (a34, .inl (gI (xg x), 27, .inl v40)), (a35, .inl (gI (xg x), 27, .inl v41)), (a36, .inl (gI (xg x), 60, .inl v42)), (a37, .inl (gI (xg x), 3, .inl v43))] ++ ZP (xg x) a39 v45) (rest := []) (c_L_wordAt (xl x) (xg x) hst a0 a1 a2 a3 a38 a8 a13 a18 a25 a4 a6 v0 v1 v44 (v47 (z4 + 1).toNatClampNeg) h) gL_law_L_wordAt (by rfl) rfl (by decide +kernel) ⟨⟨(Nat.le_of_ble_eq_true rfl), (Nat.le_of_ble_eq_true rfl)⟩, (Nat.le_trans (show k0 + 1 ≤ k0 + rc by omega) hk.1), (Nat.le_trans (show n0 + 6 ≤ n0 + rs by omega) hk.2)⟩ (Nat.le_of_ble_eq_true rfl) (sb_zr (sb_of [0, 1, 2, 3, 41, 4, 5, 6, 7, 8, 9, 10, 11, 12, 13, 14, 15, 16, 17, 18, 19, 20, 21, 22, 23, 24, 25, 26, 27, 28, 29, 30, 31, 32, 33, 34, 35, 36, 37, 38, 39, 40] rfl rfl)) rfl dL_law_393 (fun v X1 hp => ?_)
    obtain ⟨r51, w52, rfl, rfl, h⟩ := hp
    have hk : k0 + 1 + mc53 ≤ (rm_L_law).cells ∧ n0 + 6 + ms54 ≤ (rm_L_law).slots := ⟨Nat.le_trans (show k0 + 1 + mc53 ≤ k0 + rc by omega) hk.1, Nat.le_trans (show n0 + 6 + ms54 ≤ n0 + rs by omega) hk.2⟩
    refine xw_X (sb_rz (sb_of [0, 1, 2, 3, 5, 6, 7, 8, 9, 10, 11, 12, 13, 14, 15, 16, 17, 18, 19, 20, 21, 22, 23, 24, 25, 26, 27, 28, 29, 30, 31, 32, 33, 34, 35, 36, 37, 38, 39, 40, 41, 4] rfl rfl)) (show ww x (W_L_law (xg x) a0 a1 a2 a3 a4 a5 a6 a7 a8 a9 a10 a11 a12 a13 a14 a15 a16 a17 a18 a19 a20 a21 a22 a23 a24 a25 a26 a27 a28 a29 a30 a31 a32 a33 a34 a35 a36 a37 a38 a39 ab v0 v1 v2 v3 v4 v5 v6 v7 v8 v9 v10 v11 v12 v13 v14 v15 v16 v17 v18 v19 v20 v21 v22 v23 v24 v25 v26 v27 v28 v29 v30 v31 v32 v33 v34 v35 v36 v37 v38 v39 v40 v41 v42 v43 w52 v46 v47 ++ ZP (xg x) a39 v45) [(0, .ref ab), (1, .ref a0), (2, .ref a27), (3, .ref a38), (4, .int z4)] (k0 + 1) (n0 + 6) 396 [.int r51] from ?_)
    refine xw_istore hf (pc := 396) dL_law_396 [(5, .int r51), (0, .ref ab), (1, .ref a0), (2, .ref a27), (3, .ref a38), (4, .int z4)] hn (by decide) rfl ?_
    refine xw_aload_n hf (pc := 398) dL_law_398 rfl 3 rfl ?_
    refine xw_aload_n hf (pc := 399) dL_law_399 rfl 1 rfl ?_
    refine xw_iload hf (pc := 400) dL_law_400 5 rfl ?_
    refine xw_iconst hf (pc := 402) dL_law_402 (v := 1) (by decide) ?_
    refine xw_iadd hf (pc := 403) dL_law_403 ?_
    refine xw_sald hf hX dL_law_404 h.1 ?_
    have h := h.2
    refine xw_callV hf (pc := 405) (nA := 1) (Xr := [(a0, .inr (8, [.ref a1, .ref a8, .ref a13, .ref a18, .ref a25])), (a1, .inr (2, [.ref a2, .ref a4, .ref a6])), (a2, .inr (7, [.ref a3, .int v0])), (a3, .inl (gJ (xg x), 60, .inr (.inl v1))), (a4, .inr (7, [.ref a5, .int v2])), (a5, .inl (gJ (xg x), 60, .inr (.inl v3))), (a6, .inr (3, [.ref a7])), (a7, .inl (gI (xg x), 32, .inl v4)), (a8, .inr (6, [.ref a9, .ref a11, .ref a12])), (a9, .inr (3, [.ref a10])), (a10, .inl (gI (xg x), 32, .inl v5)), (a11, .inl (gI (xg x), 32, .inl v6)), (a12, .inl (gI (xg x), 32, .inl v7)), (a13, .inr (1, [.ref a39, .ref a14, .ref a16, .int v8])), (a14, .inr (3, [.ref a15])), (a15, .inl (gI (xg x), 32, .inl v9)), (a16, .inr (3, [.ref a17])), (a17, .inl (gI (xg x), 32, .inl v10)), (a18, .inr (4, [.ref a19, .ref a21, .ref a23, .int v11, .int v12])), (a19, .inr (3, [.ref a20])), (a20, .inl (gI (xg x), 32, .inl v13)), (a21, .inr (7, [.ref a22, .int v14])), (a22, .inl (gJ (xg x), 60, .inr (.inl v15))), (a23, .inr (7, [.ref a24, .int v16])), (a24, .inl (gJ (xg x), 60, .inr (.inl v17))), (a25, .inr (3, [.ref a26])), (a26, .inl (gI (xg x), 32, .inl v18)), (a29, .inl (gI (xg x), 27, .inl v26)), (a30, .inl (gI (xg x), 27, .inl v27)), (a31, .inl (gI (xg x), 27, .inl v28)), (a32, .inl (gI (xg x), 27, .inl v29)), (v30, .inl (gJ (xg x), v31, .inr (.inl v32))), (v33, .inl (gI (xg x), v34, .inl v35)), (v36, .inl (gZ (xg x), v37, .inl v38)), (a33, .inl (gI (xg x), 12, .inl v39)), (a35, .inl (gI (xg x), 27, .inl v41)), (a36, .inl (gI (xg x), 60, .inl v42)), (a37, .inl (gI (xg x), 3, .inl v43)), (a38, .inl (gJ (xg x), 1, .inr (.inl w52)))] ++ ZP (xg x) a39 v45) (rest := []) (T := TX9) (c_X9_wordAt (xl x) (xg x) a27 a28 a34 a29 a30 a31 a32 v30 v33 v36 a33 a35 a36 a37 v19 v20 v21 v22 v23 v24 v25 v40 (v47 (z4 + 1).toNatClampNeg) h) gL_law_X9_wordAt (by rfl) rfl rfl (by decide +kernel) ⟨⟨(Nat.le_of_ble_eq_true rfl), (Nat.le_of_ble_eq_true rfl)⟩, (Nat.le_trans (Nat.le_add_right _ _) hk.1), (Nat.le_trans (Nat.le_add_right _ _) hk.2)⟩ (Nat.le_of_ble_eq_true rfl) rfl rfl (sb_zr (sb_of [27, 28, 37, 0, 1, 2, 3, 4, 5, 6, 7, 8, 9, 10, 11, 12, 13, 14, 15, 16, 17, 18, 19, 20, 21, 22, 23, 24, 25, 26, 29, 30, 31, 32, 33, 34, 35, 36, 38, 39, 40, 41] rfl rfl)) rfl dL_law_405 (fun v X1 hp => ?_)
    obtain ⟨r55, w56, rfl, rfl, h⟩ := hp
    refine xw_X (sb_rz (sb_of [3, 4, 5, 6, 7, 8, 9, 10, 11, 12, 13, 14, 15, 16, 17, 18, 19, 20, 21, 22, 23, 24, 25, 26, 27, 28, 29, 0, 1, 30, 31, 32, 33, 34, 35, 36, 37, 2, 38, 39, 40, 41] rfl rfl)) (show ww x (W_L_law (xg x) a0 a1 a2 a3 a4 a5 a6 a7 a8 a9 a10 a11 a12 a13 a14 a15 a16 a17 a18 a19 a20 a21 a22 a23 a24 a25 a26 a27 a28 a29 a30 a31 a32 a33 a34 a35 a36 a37 a38 a39 ab v0 v1 v2 v3 v4 v5 v6 v7 v8 v9 v10 v11 v12 v13 v14 v15 v16 v17 v18 w56 v20 v21 v22 v23 v24 v25 v26 v27 v28 v29 v30 v31 v32 v33 v34 v35 v36 v37 v38 v39 v40 v41 v42 v43 w52 v46 v47 ++ ZP (xg x) a39 v45) [(5, .int r51), (0, .ref ab), (1, .ref a0), (2, .ref a27), (3, .ref a38), (4, .int z4)] (k0 + 1) (n0 + 6) 408 [.long r55] from ?_)
    refine xw_lstore hf (pc := 408) dL_law_408 [(6, .long r55), (5, .int r51), (0, .ref ab), (1, .ref a0), (2, .ref a27), (3, .ref a38), (4, .int z4)] hn (by decide) rfl ?_
    refine xw_aload_n hf (pc := 410) dL_law_410 rfl 4 rfl ?_
    refine xw_callV hf (pc := 411) (nA := 0) (Xr := [(a0, .inr (8, [.ref a1, .ref a8, .ref a13, .ref a18, .ref a25])), (a1, .inr (2, [.ref a2, .ref a4, .ref a6])), (a2, .inr (7, [.ref a3, .int v0])), (a3, .inl (gJ (xg x), 60, .inr (.inl v1))), (a4, .inr (7, [.ref a5, .int v2])), (a5, .inl (gJ (xg x), 60, .inr (.inl v3))), (a6, .inr (3, [.ref a7])), (a7, .inl (gI (xg x), 32, .inl v4)), (a8, .inr (6, [.ref a9, .ref a11, .ref a12])), (a9, .inr (3, [.ref a10])), (a10, .inl (gI (xg x), 32, .inl v5)), (a11, .inl (gI (xg x), 32, .inl v6)), (a12, .inl (gI (xg x), 32, .inl v7)), (a13, .inr (1, [.ref a39, .ref a14, .ref a16, .int v8])), (a14, .inr (3, [.ref a15])), (a15, .inl (gI (xg x), 32, .inl v9)), (a16, .inr (3, [.ref a17])), (a17, .inl (gI (xg x), 32, .inl v10)), (a18, .inr (4, [.ref a19, .ref a21, .ref a23, .int v11, .int v12])), (a19, .inr (3, [.ref a20])), (a20, .inl (gI (xg x), 32, .inl v13)), (a21, .inr (7, [.ref a22, .int v14])), (a22, .inl (gJ (xg x), 60, .inr (.inl v15))), (a23, .inr (7, [.ref a24, .int v16])), (a24, .inl (gJ (xg x), 60, .inr (.inl v17))), (a25, .inr (3, [.ref a26])), (a26, .inl (gI (xg x), 32, .inl v18)), (a28, .inl (gJ (xg x), 60, .inr (.inl v25))), (a29, .inl (gI (xg x), 27, .inl v26)), (a30, .inl (gI (xg x), 27, .inl v27)), (a31, .inl (gI (xg x), 27, .inl v28)), (a32, .inl (gI (xg x), 27, .inl v29)), (v30, .inl (gJ (xg x), v31, .inr (.inl v32))), (v33, .inl (gI (xg x), v34, .inl v35)), (v36, .inl (gZ (xg x), v37, .inl v38)), (a33, .inl (gI (xg x), 12, .inl v39)), (a34, .inl (gI (xg x), 27, .inl v40)), (a35, .inl (gI (xg x), 27, .inl v41)), (a36, .inl (gI (xg x), 60, .inl v42)), (a37, .inl (gI (xg x), 3, .inl v43)), (a38, .inl (gJ (xg x), 1, .inr (.inl w52)))] ++ ZP (xg x) a39 v45) (rest := []) (T := TX9) (c_X9_thrown (xl x) (xg x) a27 a28 a29 a30 a31 a32 v30 v33 v36 a33 a34 a35 a36 a37 w56 v20 v21 v22 v23 v24 h) gL_law_X9_thrown (by rfl) rfl rfl (by decide +kernel) ⟨⟨(Nat.le_of_ble_eq_true rfl), (Nat.le_of_ble_eq_true rfl)⟩, (Nat.le_trans (Nat.le_add_right _ _) hk.1), (Nat.le_trans (Nat.le_add_right _ _) hk.2)⟩ (Nat.le_of_ble_eq_true rfl) rfl rfl (sb_zr (sb_of [27, 0, 1, 2, 3, 4, 5, 6, 7, 8, 9, 10, 11, 12, 13, 14, 15, 16, 17, 18, 19, 20, 21, 22, 23, 24, 25, 26, 28, 29, 30, 31, 32, 33, 34, 35, 36, 37, 38, 39, 40, 41] rfl rfl)) rfl dL_law_411 (fun v X1 hp => ?_)
    obtain ⟨r57, rfl, rfl, h⟩ := hp
    refine xw_X (sb_rz (sb_of [1, 2, 3, 4, 5, 6, 7, 8, 9, 10, 11, 12, 13, 14, 15, 16, 17, 18, 19, 20, 21, 22, 23, 24, 25, 26, 27, 0, 28, 29, 30, 31, 32, 33, 34, 35, 36, 37, 38, 39, 40, 41] rfl rfl)) (show ww x (W_L_law (xg x) a0 a1 a2 a3 a4 a5 a6 a7 a8 a9 a10 a11 a12 a13 a14 a15 a16 a17 a18 a19 a20 a21 a22 a23 a24 a25 a26 a27 a28 a29 a30 a31 a32 a33 a34 a35 a36 a37 a38 a39 ab v0 v1 v2 v3 v4 v5 v6 v7 v8 v9 v10 v11 v12 v13 v14 v15 v16 v17 v18 w56 v20 v21 v22 v23 v24 v25 v26 v27 v28 v29 v30 v31 v32 v33 v34 v35 v36 v37 v38 v39 v40 v41 v42 v43 w52 v46 v47 ++ ZP (xg x) a39 v45) [(6, .long r55), (5, .int r51), (0, .ref ab), (1, .ref a0), (2, .ref a27), (3, .ref a38), (4, .int z4)] (k0 + 1) (n0 + 6) 414 [.int r57] from ?_)
    refine xw_iload hf (pc := 414) dL_law_414 1 rfl ?_
    refine xw_icmp_eq hf (pc := 416) dL_law_416 (tgt := 421) rfl ⟨fun c => ?_, fun c => ?_⟩
    · have h := h.1 c
      refine xw_iload hf (pc := 421) dL_law_421 1 rfl ?_
      refine xw_if_ne hf (pc := 423) dL_law_423 (c := r51 = 0) Iff.rfl (tgt := 437) rfl ⟨fun c => ?_, fun c => ?_⟩
      · have h := h.1 c
        refine xw_aload_n hf (pc := 426) dL_law_426 rfl 5 rfl ?_
        refine xw_iconst hf (pc := 427) dL_law_427 (v := 0) (by decide) ?_
        refine xw_lald hf (pc := 428) dL_law_428 41 rfl h.1 ?_
        have h := h.2
        refine xw_lload hf (pc := 429) dL_law_429 0 rfl ?_
        refine xw_lcmp hf (pc := 431) dL_law_431 ?_
        refine xw_if_eq hf (pc := 432) dL_law_432 (c := (w52 (0 : Int32).toNatClampNeg) = r55) (lc_eq _ _) (tgt := 437) rfl ⟨fun c => ?_, fun c => ?_⟩
        · have h := h.1 c
          refine xw_goto hf (pc := 437) dL_law_437 (tgt := 2681) rfl ?_
          refine xw_L [2, 3, 4, 5, 6] rfl ?_
          exact hK2681 _ _ _ _ hk _ _ h
        · have h := h.2 c
          refine xw_iconst hf (pc := 435) dL_law_435 (v := 0) (by decide) ?_
          exact h.elim
      · have h := h.2 c
        refine xw_goto hf (pc := 437) dL_law_437 (tgt := 2681) rfl ?_
        refine xw_L [2, 3, 4, 5, 6] rfl ?_
        exact hK2681 _ _ _ _ hk _ _ h
    · have h := h.2 c
      refine xw_iconst hf (pc := 419) dL_law_419 (v := 0) (by decide) ?_
      exact h.elim
set_option maxHeartbeats 4000000 in
set_option maxRecDepth 100000 in
theorem w_L_law_L440 {x : Cx} {mc ms : Nat} (hf : fx x (rm_L_law) RL cL_law wsL_law) (hn : xn x = 8) {k0 n0 rc rs : Nat} (hk : k0 + rc ≤ (rm_L_law).cells ∧ n0 + rs ≤ (rm_L_law).slots) (a0 a1 a2 a3 a4 a5 a6 a7 a8 a9 a10 a11 a12 a13 a14 a15 a16 a17 a18 a19 a20 a21 a22 a23 a24 a25 a26 a27 a28 a29 a30 a31 a32 a33 a34 a35 a36 a37 a38 a39 ab : Nat) (z4 : Int32) (v0 : Int32) (v1 : Nat → Int64) (v20 : Int32) (v21 : Int32) (v22 : Int32) (v23 : Int32) (v24 : Int32) (v25 : Nat → Int64) (v46 : Nat) (v47 : Nat → Int32) (v2 : Int32) (v3 : Nat → Int64) (v4 : Nat → Int32) (v5 : Nat → Int32) (v6 : Nat → Int32) (v7 : Nat → Int32) (v8 : Int32) (v9 : Nat → Int32) (v10 : Nat → Int32) (v11 : Int32) (v12 : Int32) (v13 : Nat → Int32) (v14 : Int32) (v15 : Nat → Int64) (v16 : Int32) (v17 : Nat → Int64) (v18 : Nat → Int32) (v26 : Nat → Int32) (v27 : Nat → Int32) (v28 : Nat → Int32) (v29 : Nat → Int32) (v30 : Nat) (v31 : Nat) (v32 : Nat → Int64) (v33 : Nat) (v34 : Nat) (v35 : Nat → Int32) (v36 : Nat) (v37 : Nat) (v38 : Nat → Int32) (v39 : Nat → Int32) (v40 : Nat → Int32) (v41 : Nat → Int32) (v42 : Nat → Int32) (v43 : Nat → Int32) (v45 : ZL) {K2681 : Nat → Nat → Int32 → (Nat → Int64) → Prop} (hst : (xl x).stackTraces = false) (hX : sX x ab v46 v47)
    (n : Nat) (v19 : Int32) (v44 : Nat → Int64) (h : P_L_law_L440 z4 v0 v1 v20 v21 v22 v23 v24 v25 v46 v47 K2681 n rc rs v19 v44)
    (hK2681 : ∀ (k0 n0 rc rs : Nat), k0 + rc ≤ (rm_L_law).cells ∧ n0 + rs ≤ (rm_L_law).slots → ∀ (uv19 : Int32), ∀ (uv44 : Nat → Int64), K2681 rc rs uv19 uv44 → ww x (W_L_law (xg x) a0 a1 a2 a3 a4 a5 a6 a7 a8 a9 a10 a11 a12 a13 a14 a15 a16 a17 a18 a19 a20 a21 a22 a23 a24 a25 a26 a27 a28 a29 a30 a31 a32 a33 a34 a35 a36 a37 a38 a39 ab v0 v1 v2 v3 v4 v5 v6 v7 v8 v9 v10 v11 v12 v13 v14 v15 v16 v17 v18 uv19 v20 v21 v22 v23 v24 v25 v26 v27 v28 v29 v30 v31 v32 v33 v34 v35 v36 v37 v38 v39 v40 v41 v42 v43 uv44 v46 v47 ++ ZP (xg x) a39 v45) [(0, .ref ab), (1, .ref a0), (2, .ref a27), (3, .ref a38), (4, .int z4)] k0 n0 2681 []) :
    ww x (W_L_law (xg x) a0 a1 a2 a3 a4 a5 a6 a7 a8 a9 a10 a11 a12 a13 a14 a15 a16 a17 a18 a19 a20 a21 a22 a23 a24 a25 a26 a27 a28 a29 a30 a31 a32 a33 a34 a35 a36 a37 a38 a39 ab v0 v1 v2 v3 v4 v5 v6 v7 v8 v9 v10 v11 v12 v13 v14 v15 v16 v17 v18 v19 v20 v21 v22 v23 v24 v25 v26 v27 v28 v29 v30 v31 v32 v33 v34 v35 v36 v37 v38 v39 v40 v41 v42 v43 v44 v46 v47 ++ ZP (xg x) a39 v45) [(0, .ref ab), (1, .ref a0), (2, .ref a27), (3, .ref a38), (4, .int z4)] k0 n0 440 [] := by
  induction n generalizing k0 n0 rc rs v19 v44 with
  | zero => exact h.elim
  | succ n ih =>
    unfold P_L_law_L440 at h
    refine xw_aload_n hf (pc := 440) dL_law_440 rfl 1 rfl ?_
    refine xw_aload_n hf (pc := 441) dL_law_441 rfl 0 rfl ?_
    refine xw_iload hf (pc := 442) dL_law_442 4 rfl ?_
    refine xw_iconst hf (pc := 444) dL_law_444 (v := 1) (by decide) ?_
    refine xw_iadd hf (pc := 445) dL_law_445 ?_
    refine xw_sald hf hX dL_law_446 h.1 ?_
    have h := h.2
    refine xw_i2l hf (pc := 447) dL_law_447 ?_
    refine xw_bipush hf (pc := 448) dL_law_448 (v := 32) (by decide) ?_
    refine xw_lshl hf (pc := 450) dL_law_450 ?_
    refine xw_aload_n hf (pc := 451) dL_law_451 rfl 0 rfl ?_
    refine xw_iload hf (pc := 452) dL_law_452 4 rfl ?_
    refine xw_iconst hf (pc := 454) dL_law_454 (v := 2) (by decide) ?_
    refine xw_iadd hf (pc := 455) dL_law_455 ?_
    refine xw_sald hf hX dL_law_456 h.1 ?_
    have h := h.2
    refine xw_i2l hf (pc := 457) dL_law_457 ?_
    refine xw_ldc2 hf (pc := 458) dL_law_458 mw_L_law_0 ?_
    refine xw_land hf (pc := 461) dL_law_461 ?_
    refine xw_lor hf (pc := 462) dL_law_462 ?_
    refine xw_aload_n hf (pc := 463) dL_law_463 rfl 3 rfl ?_
    obtain ⟨mc66, ms67, ⟨hb1, hb2⟩, h⟩ := h
    refine xw_callSW hf (pc := 464) (nA := 3) (Xr := [(a4, .inr (7, [.ref a5, .int v2])), (a5, .inl (gJ (xg x), 60, .inr (.inl v3))), (a6, .inr (3, [.ref a7])), (a7, .inl (gI (xg x), 32, .inl v4)), (a8, .inr (6, [.ref a9, .ref a11, .ref a12])), (a9, .inr (3, [.ref a10])), (a10, .inl (gI (xg x), 32, .inl v5)), (a11, .inl (gI (xg x), 32, .inl v6)), (a12, .inl (gI (xg x), 32, .inl v7)), (a13, .inr (1, [.ref a39, .ref a14, .ref a16, .int v8])), (a14, .inr (3, [.ref a15])), (a15, .inl (gI (xg x), 32, .inl v9)), (a16, .inr (3, [.ref a17])), (a17, .inl (gI (xg x), 32, .inl v10)), (a18, .inr (4, [.ref a19, .ref a21, .ref a23, .int v11, .int v12])), (a19, .inr (3, [.ref a20])), (a20, .inl (gI (xg x), 32, .inl v13)), (a21, .inr (7, [.ref a22, .int v14])), (a22, .inl (gJ (xg x), 60, .inr (.inl v15))), (a23, .inr (7, [.ref a24, .int v16])), (a24, .inl (gJ (xg x), 60, .inr (.inl v17))), (a25, .inr (3, [.ref a26])), (a26, .inl (gI (xg x), 32, .inl v18)), (a27, .inr (9, [.int v19, .ref a28, .int v20, .ref a29, .ref a30, .ref a31, .ref a32, .ref v30, .ref v33, .ref v36, .int v21, .int v22, .ref a33, .int v23, .ref a34, .ref a35, .ref a36, .ref a37, .int v24])), (a28, .inl (gJ (xg x), 60, .inr (.inl v25))), (a29, .inl (gI (xg x), 27, .inl v26)), (a30, .inl (gI (xg x), 27, .inl v27)), (a31, .inl (gI (xg x), 27, .inl v28)), (a32, .inl (gI (xg x), 27, .inl v29)), (v30, .inl (gJ (xg x), v31, .inr (.inl v32))), (v33, .inl (gI (xg x), v34, .inl v35)), (v36, .inl (gZ (xg x), v37, .inl v38)), (a33, .inl (gI (xg x), 12, .inl v39)), (a34, .inl (gI (xg x), 27, .inl v40)), (a35, .inl (gI (xg x), 27, .inl v41)), (a36, .inl (gI (xg x), 60, .inl v42)), (a37, .inl (gI (xg x), 3, .inl v43))] ++ ZP (xg x) a39 v45) (rest := []) (c_L_hasWord (xl x) (xg x) hst a0 a1 a2 a3 a38 a8 a13 a18 a25 a4 a6 v0 v1 v44 ((((v47 (z4 + 1).toNatClampNeg).toInt64) <<< ((32 : Int32).toInt64 &&& 63)) ||| (((v47 (z4 + 2).toNatClampNeg).toInt64) &&& 4294967295)) h) gL_law_L_hasWord (by rfl) rfl (by decide +kernel) ⟨⟨(Nat.le_of_ble_eq_true rfl), (Nat.le_of_ble_eq_true rfl)⟩, (Nat.le_trans (show k0 + 1 ≤ k0 + rc by omega) hk.1), (Nat.le_trans (show n0 + 6 ≤ n0 + rs by omega) hk.2)⟩ (Nat.le_of_ble_eq_true rfl) (sb_zr (sb_of [0, 1, 2, 3, 41, 4, 5, 6, 7, 8, 9, 10, 11, 12, 13, 14, 15, 16, 17, 18, 19, 20, 21, 22, 23, 24, 25, 26, 27, 28, 29, 30, 31, 32, 33, 34, 35, 36, 37, 38, 39, 40] rfl rfl)) rfl dL_law_464 (fun v X1 hp => ?_)
    obtain ⟨r64, w65, rfl, rfl, h⟩ := hp
    have hk : k0 + 1 + mc66 ≤ (rm_L_law).cells ∧ n0 + 6 + ms67 ≤ (rm_L_law).slots := ⟨Nat.le_trans (show k0 + 1 + mc66 ≤ k0 + rc by omega) hk.1, Nat.le_trans (show n0 + 6 + ms67 ≤ n0 + rs by omega) hk.2⟩
    refine xw_X (sb_rz (sb_of [0, 1, 2, 3, 5, 6, 7, 8, 9, 10, 11, 12, 13, 14, 15, 16, 17, 18, 19, 20, 21, 22, 23, 24, 25, 26, 27, 28, 29, 30, 31, 32, 33, 34, 35, 36, 37, 38, 39, 40, 41, 4] rfl rfl)) (show ww x (W_L_law (xg x) a0 a1 a2 a3 a4 a5 a6 a7 a8 a9 a10 a11 a12 a13 a14 a15 a16 a17 a18 a19 a20 a21 a22 a23 a24 a25 a26 a27 a28 a29 a30 a31 a32 a33 a34 a35 a36 a37 a38 a39 ab v0 v1 v2 v3 v4 v5 v6 v7 v8 v9 v10 v11 v12 v13 v14 v15 v16 v17 v18 v19 v20 v21 v22 v23 v24 v25 v26 v27 v28 v29 v30 v31 v32 v33 v34 v35 v36 v37 v38 v39 v40 v41 v42 v43 w65 v46 v47 ++ ZP (xg x) a39 v45) [(0, .ref ab), (1, .ref a0), (2, .ref a27), (3, .ref a38), (4, .int z4)] (k0 + 1) (n0 + 6) 467 [.int r64] from ?_)
    refine xw_istore hf (pc := 467) dL_law_467 [(5, .int r64), (0, .ref ab), (1, .ref a0), (2, .ref a27), (3, .ref a38), (4, .int z4)] hn (by decide) rfl ?_
    refine xw_aload_n hf (pc := 469) dL_law_469 rfl 3 rfl ?_
    refine xw_aload_n hf (pc := 470) dL_law_470 rfl 1 rfl ?_
    refine xw_iload hf (pc := 471) dL_law_471 5 rfl ?_
    refine xw_iconst hf (pc := 473) dL_law_473 (v := 1) (by decide) ?_
    refine xw_iadd hf (pc := 474) dL_law_474 ?_
    refine xw_sald hf hX dL_law_475 h.1 ?_
    have h := h.2
    refine xw_i2l hf (pc := 476) dL_law_476 ?_
    refine xw_bipush hf (pc := 477) dL_law_477 (v := 32) (by decide) ?_
    refine xw_lshl hf (pc := 479) dL_law_479 ?_
    refine xw_aload_n hf (pc := 480) dL_law_480 rfl 1 rfl ?_
    refine xw_iload hf (pc := 481) dL_law_481 5 rfl ?_
    refine xw_iconst hf (pc := 483) dL_law_483 (v := 2) (by decide) ?_
    refine xw_iadd hf (pc := 484) dL_law_484 ?_
    refine xw_sald hf hX dL_law_485 h.1 ?_
    have h := h.2
    refine xw_i2l hf (pc := 486) dL_law_486 ?_
    refine xw_ldc2 hf (pc := 487) dL_law_487 mw_L_law_0 ?_
    refine xw_land hf (pc := 490) dL_law_490 ?_
    refine xw_lor hf (pc := 491) dL_law_491 ?_
    refine xw_callV hf (pc := 492) (nA := 1) (Xr := [(a0, .inr (8, [.ref a1, .ref a8, .ref a13, .ref a18, .ref a25])), (a1, .inr (2, [.ref a2, .ref a4, .ref a6])), (a2, .inr (7, [.ref a3, .int v0])), (a3, .inl (gJ (xg x), 60, .inr (.inl v1))), (a4, .inr (7, [.ref a5, .int v2])), (a5, .inl (gJ (xg x), 60, .inr (.inl v3))), (a6, .inr (3, [.ref a7])), (a7, .inl (gI (xg x), 32, .inl v4)), (a8, .inr (6, [.ref a9, .ref a11, .ref a12])), (a9, .inr (3, [.ref a10])), (a10, .inl (gI (xg x), 32, .inl v5)), (a11, .inl (gI (xg x), 32, .inl v6)), (a12, .inl (gI (xg x), 32, .inl v7)), (a13, .inr (1, [.ref a39, .ref a14, .ref a16, .int v8])), (a14, .inr (3, [.ref a15])), (a15, .inl (gI (xg x), 32, .inl v9)), (a16, .inr (3, [.ref a17])), (a17, .inl (gI (xg x), 32, .inl v10)), (a18, .inr (4, [.ref a19, .ref a21, .ref a23, .int v11, .int v12])), (a19, .inr (3, [.ref a20])), (a20, .inl (gI (xg x), 32, .inl v13)), (a21, .inr (7, [.ref a22, .int v14])), (a22, .inl (gJ (xg x), 60, .inr (.inl v15))), (a23, .inr (7, [.ref a24, .int v16])), (a24, .inl (gJ (xg x), 60, .inr (.inl v17))), (a25, .inr (3, [.ref a26])), (a26, .inl (gI (xg x), 32, .inl v18)), (a29, .inl (gI (xg x), 27, .inl v26)), (a30, .inl (gI (xg x), 27, .inl v27)), (a31, .inl (gI (xg x), 27, .inl v28)), (a32, .inl (gI (xg x), 27, .inl v29)), (v30, .inl (gJ (xg x), v31, .inr (.inl v32))), (v33, .inl (gI (xg x), v34, .inl v35)), (v36, .inl (gZ (xg x), v37, .inl v38)), (a33, .inl (gI (xg x), 12, .inl v39)), (a34, .inl (gI (xg x), 27, .inl v40)), (a35, .inl (gI (xg x), 27, .inl v41)), (a36, .inl (gI (xg x), 60, .inl v42)), (a37, .inl (gI (xg x), 3, .inl v43)), (a38, .inl (gJ (xg x), 1, .inr (.inl w65)))] ++ ZP (xg x) a39 v45) (rest := []) (T := TX9) (c_X9_hasWord (xl x) (xg x) a27 a28 a29 a30 a31 a32 v30 v33 v36 a33 a34 a35 a36 a37 v19 v20 v21 v22 v23 v24 v25 ((((v47 (z4 + 1).toNatClampNeg).toInt64) <<< ((32 : Int32).toInt64 &&& 63)) ||| (((v47 (z4 + 2).toNatClampNeg).toInt64) &&& 4294967295)) h) gL_law_X9_hasWord (by rfl) rfl rfl (by decide +kernel) ⟨⟨(Nat.le_of_ble_eq_true rfl), (Nat.le_of_ble_eq_true rfl)⟩, (Nat.le_trans (Nat.le_add_right _ _) hk.1), (Nat.le_trans (Nat.le_add_right _ _) hk.2)⟩ (Nat.le_of_ble_eq_true rfl) rfl rfl (sb_zr (sb_of [27, 28, 0, 1, 2, 3, 4, 5, 6, 7, 8, 9, 10, 11, 12, 13, 14, 15, 16, 17, 18, 19, 20, 21, 22, 23, 24, 25, 26, 29, 30, 31, 32, 33, 34, 35, 36, 37, 38, 39, 40, 41] rfl rfl)) rfl dL_law_492 (fun v X1 hp => ?_)
    obtain ⟨r68, w69, rfl, rfl, h⟩ := hp
    refine xw_X (sb_rz (sb_of [2, 3, 4, 5, 6, 7, 8, 9, 10, 11, 12, 13, 14, 15, 16, 17, 18, 19, 20, 21, 22, 23, 24, 25, 26, 27, 28, 0, 1, 29, 30, 31, 32, 33, 34, 35, 36, 37, 38, 39, 40, 41] rfl rfl)) (show ww x (W_L_law (xg x) a0 a1 a2 a3 a4 a5 a6 a7 a8 a9 a10 a11 a12 a13 a14 a15 a16 a17 a18 a19 a20 a21 a22 a23 a24 a25 a26 a27 a28 a29 a30 a31 a32 a33 a34 a35 a36 a37 a38 a39 ab v0 v1 v2 v3 v4 v5 v6 v7 v8 v9 v10 v11 v12 v13 v14 v15 v16 v17 v18 w69 v20 v21 v22 v23 v24 v25 v26 v27 v28 v29 v30 v31 v32 v33 v34 v35 v36 v37 v38 v39 v40 v41 v42 v43 w65 v46 v47 ++ ZP (xg x) a39 v45) [(5, .int r64), (0, .ref ab), (1, .ref a0), (2, .ref a27), (3, .ref a38), (4, .int z4)] (k0 + 1) (n0 + 6) 495 [.int r68] from ?_)
    refine xw_istore hf (pc := 495) dL_law_495 [(6, .int r68), (5, .int r64), (0, .ref ab), (1, .ref a0), (2, .ref a27), (3, .ref a38), (4, .int z4)] hn (by decide) rfl ?_
    refine xw_aload_n hf (pc := 497) dL_law_497 rfl 4 rfl ?_
    refine xw_callV hf (pc := 498) (nA := 0) (Xr := [(a0, .inr (8, [.ref a1, .ref a8, .ref a13, .ref a18, .ref a25])), (a1, .inr (2, [.ref a2, .ref a4, .ref a6])), (a2, .inr (7, [.ref a3, .int v0])), (a3, .inl (gJ (xg x), 60, .inr (.inl v1))), (a4, .inr (7, [.ref a5, .int v2])), (a5, .inl (gJ (xg x), 60, .inr (.inl v3))), (a6, .inr (3, [.ref a7])), (a7, .inl (gI (xg x), 32, .inl v4)), (a8, .inr (6, [.ref a9, .ref a11, .ref a12])), (a9, .inr (3, [.ref a10])), (a10, .inl (gI (xg x), 32, .inl v5)), (a11, .inl (gI (xg x), 32, .inl v6)), (a12, .inl (gI (xg x), 32, .inl v7)), (a13, .inr (1, [.ref a39, .ref a14, .ref a16, .int v8])), (a14, .inr (3, [.ref a15])), (a15, .inl (gI (xg x), 32, .inl v9)), (a16, .inr (3, [.ref a17])), (a17, .inl (gI (xg x), 32, .inl v10)), (a18, .inr (4, [.ref a19, .ref a21, .ref a23, .int v11, .int v12])), (a19, .inr (3, [.ref a20])), (a20, .inl (gI (xg x), 32, .inl v13)), (a21, .inr (7, [.ref a22, .int v14])), (a22, .inl (gJ (xg x), 60, .inr (.inl v15))), (a23, .inr (7, [.ref a24, .int v16])), (a24, .inl (gJ (xg x), 60, .inr (.inl v17))), (a25, .inr (3, [.ref a26])), (a26, .inl (gI (xg x), 32, .inl v18)), (a28, .inl (gJ (xg x), 60, .inr (.inl v25))), (a29, .inl (gI (xg x), 27, .inl v26)), (a30, .inl (gI (xg x), 27, .inl v27)), (a31, .inl (gI (xg x), 27, .inl v28)), (a32, .inl (gI (xg x), 27, .inl v29)), (v30, .inl (gJ (xg x), v31, .inr (.inl v32))), (v33, .inl (gI (xg x), v34, .inl v35)), (v36, .inl (gZ (xg x), v37, .inl v38)), (a33, .inl (gI (xg x), 12, .inl v39)), (a34, .inl (gI (xg x), 27, .inl v40)), (a35, .inl (gI (xg x), 27, .inl v41)), (a36, .inl (gI (xg x), 60, .inl v42)), (a37, .inl (gI (xg x), 3, .inl v43)), (a38, .inl (gJ (xg x), 1, .inr (.inl w65)))] ++ ZP (xg x) a39 v45) (rest := []) (T := TX9) (c_X9_thrown (xl x) (xg x) a27 a28 a29 a30 a31 a32 v30 v33 v36 a33 a34 a35 a36 a37 w69 v20 v21 v22 v23 v24 h) gL_law_X9_thrown (by rfl) rfl rfl (by decide +kernel) ⟨⟨(Nat.le_of_ble_eq_true rfl), (Nat.le_of_ble_eq_true rfl)⟩, (Nat.le_trans (Nat.le_add_right _ _) hk.1), (Nat.le_trans (Nat.le_add_right _ _) hk.2)⟩ (Nat.le_of_ble_eq_true rfl) rfl rfl (sb_zr (sb_of [27, 0, 1, 2, 3, 4, 5, 6, 7, 8, 9, 10, 11, 12, 13, 14, 15, 16, 17, 18, 19, 20, 21, 22, 23, 24, 25, 26, 28, 29, 30, 31, 32, 33, 34, 35, 36, 37, 38, 39, 40, 41] rfl rfl)) rfl dL_law_498 (fun v X1 hp => ?_)
    obtain ⟨r70, rfl, rfl, h⟩ := hp
    refine xw_X (sb_rz (sb_of [1, 2, 3, 4, 5, 6, 7, 8, 9, 10, 11, 12, 13, 14, 15, 16, 17, 18, 19, 20, 21, 22, 23, 24, 25, 26, 27, 0, 28, 29, 30, 31, 32, 33, 34, 35, 36, 37, 38, 39, 40, 41] rfl rfl)) (show ww x (W_L_law (xg x) a0 a1 a2 a3 a4 a5 a6 a7 a8 a9 a10 a11 a12 a13 a14 a15 a16 a17 a18 a19 a20 a21 a22 a23 a24 a25 a26 a27 a28 a29 a30 a31 a32 a33 a34 a35 a36 a37 a38 a39 ab v0 v1 v2 v3 v4 v5 v6 v7 v8 v9 v10 v11 v12 v13 v14 v15 v16 v17 v18 w69 v20 v21 v22 v23 v24 v25 v26 v27 v28 v29 v30 v31 v32 v33 v34 v35 v36 v37 v38 v39 v40 v41 v42 v43 w65 v46 v47 ++ ZP (xg x) a39 v45) [(6, .int r68), (5, .int r64), (0, .ref ab), (1, .ref a0), (2, .ref a27), (3, .ref a38), (4, .int z4)] (k0 + 1) (n0 + 6) 501 [.int r70] from ?_)
    refine xw_iload hf (pc := 501) dL_law_501 1 rfl ?_
    refine xw_icmp_eq hf (pc := 503) dL_law_503 (tgt := 508) rfl ⟨fun c => ?_, fun c => ?_⟩
    · have h := h.1 c
      refine xw_iload hf (pc := 508) dL_law_508 1 rfl ?_
      refine xw_if_ne hf (pc := 510) dL_law_510 (c := r64 = 0) Iff.rfl (tgt := 532) rfl ⟨fun c => ?_, fun c => ?_⟩
      · have h := h.1 c
        refine xw_aload_n hf (pc := 513) dL_law_513 rfl 5 rfl ?_
        refine xw_iconst hf (pc := 514) dL_law_514 (v := 0) (by decide) ?_
        refine xw_lald hf (pc := 515) dL_law_515 41 rfl h.1 ?_
        have h := h.2
        refine xw_iload hf (pc := 516) dL_law_516 0 rfl ?_
        refine xw_if_eq hf (pc := 518) dL_law_518 (c := r68 = 0) Iff.rfl (tgt := 525) rfl ⟨fun c => ?_, fun c => ?_⟩
        · have h := h.1 c
          refine xw_lconst hf (pc := 525) dL_law_525 (v := 0) (by decide) ?_
          refine xw_lcmp hf (pc := 526) dL_law_526 ?_
          refine xw_if_eq hf (pc := 527) dL_law_527 (c := (w65 (0 : Int32).toNatClampNeg) = 0) (lc_eq _ _) (tgt := 532) rfl ⟨fun c => ?_, fun c => ?_⟩
          · have h := h.1 c
            refine xw_goto hf (pc := 532) dL_law_532 (tgt := 2681) rfl ?_
            refine xw_L [2, 3, 4, 5, 6] rfl ?_
            exact hK2681 _ _ _ _ hk _ _ h
          · have h := h.2 c
            refine xw_iconst hf (pc := 530) dL_law_530 (v := 0) (by decide) ?_
            exact h.elim
        · have h := h.2 c
          refine xw_lconst hf (pc := 521) dL_law_521 (v := 1) (by decide) ?_
          refine xw_goto hf (pc := 522) dL_law_522 (tgt := 526) rfl ?_
          refine xw_lcmp hf (pc := 526) dL_law_526 ?_
          refine xw_if_eq hf (pc := 527) dL_law_527 (c := (w65 (0 : Int32).toNatClampNeg) = 1) (lc_eq _ _) (tgt := 532) rfl ⟨fun c => ?_, fun c => ?_⟩
          · have h := h.1 c
            refine xw_goto hf (pc := 532) dL_law_532 (tgt := 2681) rfl ?_
            refine xw_L [2, 3, 4, 5, 6] rfl ?_
            exact hK2681 _ _ _ _ hk _ _ h
          · have h := h.2 c
            refine xw_iconst hf (pc := 530) dL_law_530 (v := 0) (by decide) ?_
            exact h.elim
      · have h := h.2 c
        refine xw_goto hf (pc := 532) dL_law_532 (tgt := 2681) rfl ?_
        refine xw_L [2, 3, 4, 5, 6] rfl ?_
        exact hK2681 _ _ _ _ hk _ _ h
    · have h := h.2 c
      refine xw_iconst hf (pc := 506) dL_law_506 (v := 0) (by decide) ?_
      exact h.elim
set_option maxHeartbeats 4000000 in
set_option maxRecDepth 100000 in
theorem w_L_law_L535 {x : Cx} {mc ms : Nat} (hf : fx x (rm_L_law) RL cL_law wsL_law) (hn : xn x = 8) {k0 n0 rc rs : Nat} (hk : k0 + rc ≤ (rm_L_law).cells ∧ n0 + rs ≤ (rm_L_law).slots) (a0 a1 a2 a3 a4 a5 a6 a7 a8 a9 a10 a11 a12 a13 a14 a15 a16 a17 a18 a19 a20 a21 a22 a23 a24 a25 a26 a27 a28 a29 a30 a31 a32 a33 a34 a35 a36 a37 a38 a39 ab : Nat) (z4 : Int32) (v0 : Int32) (v1 : Nat → Int64) (v20 : Int32) (v21 : Int32) (v22 : Int32) (v24 : Int32) (v25 : Nat → Int64) (v46 : Nat) (v47 : Nat → Int32) (v5 : Nat → Int32) (v6 : Nat → Int32) (v7 : Nat → Int32) (v8 : Int32) (v9 : Nat → Int32) (v10 : Nat → Int32) (v11 : Int32) (v12 : Int32) (v13 : Nat → Int32) (v14 : Int32) (v15 : Nat → Int64) (v16 : Int32) (v17 : Nat → Int64) (v18 : Nat → Int32) (v26 : Nat → Int32) (v27 : Nat → Int32) (v28 : Nat → Int32) (v29 : Nat → Int32) (v30 : Nat) (v31 : Nat) (v32 : Nat → Int64) (v33 : Nat) (v34 : Nat) (v35 : Nat → Int32) (v36 : Nat) (v37 : Nat) (v38 : Nat → Int32) (v41 : Nat → Int32) (v42 : Nat → Int32) (v43 : Nat → Int32) (v45 : ZL) {K2681 : Nat → Nat → Int32 → (Nat → Int64) → (Nat → Int32) → Int32 → Int32 → (Nat → Int32) → (Nat → Int32) → (Nat → Int64) → Prop} (hst : (xl x).stackTraces = false) (hX : sX x ab v46 v47)
    (n : Nat) (v2 : Int32) (v3 : Nat → Int64) (v4 : Nat → Int32) (v19 : Int32) (v23 : Int32) (v39 : Nat → Int32) (v40 : Nat → Int32) (v44 : Nat → Int64) (h : P_L_law_L535 z4 v0 v1 v20 v21 v22 v24 v25 v46 v47 K2681 n rc rs v2 v3 v4 v19 v23 v39 v40 v44)
    (hK2681 : ∀ (k0 n0 rc rs : Nat), k0 + rc ≤ (rm_L_law).cells ∧ n0 + rs ≤ (rm_L_law).slots → ∀ (uv2 : Int32), ∀ (uv3 : Nat → Int64), ∀ (uv4 : Nat → Int32), ∀ (uv19 : Int32), ∀ (uv23 : Int32), ∀ (uv39 : Nat → Int32), ∀ (uv40 : Nat → Int32), ∀ (uv44 : Nat → Int64), K2681 rc rs uv2 uv3 uv4 uv19 uv23 uv39 uv40 uv44 → ww x (W_L_law (xg x) a0 a1 a2 a3 a4 a5 a6 a7 a8 a9 a10 a11 a12 a13 a14 a15 a16 a17 a18 a19 a20 a21 a22 a23 a24 a25 a26 a27 a28 a29 a30 a31 a32 a33 a34 a35 a36 a37 a38 a39 ab v0 v1 uv2 uv3 uv4 v5 v6 v7 v8 v9 v10 v11 v12 v13 v14 v15 v16 v17 v18 uv19 v20 v21 v22 uv23 v24 v25 v26 v27 v28 v29 v30 v31 v32 v33 v34 v35 v36 v37 v38 uv39 uv40 v41 v42 v43 uv44 v46 v47 ++ ZP (xg x) a39 v45) [(0, .ref ab), (1, .ref a0), (2, .ref a27), (3, .ref a38), (4, .int z4)] k0 n0 2681 []) :
    ww x (W_L_law (xg x) a0 a1 a2 a3 a4 a5 a6 a7 a8 a9 a10 a11 a12 a13 a14 a15 a16 a17 a18 a19 a20 a21 a22 a23 a24 a25 a26 a27 a28 a29 a30 a31 a32 a33 a34 a35 a36 a37 a38 a39 ab v0 v1 v2 v3 v4 v5 v6 v7 v8 v9 v10 v11 v12 v13 v14 v15 v16 v17 v18 v19 v20 v21 v22 v23 v24 v25 v26 v27 v28 v29 v30 v31 v32 v33 v34 v35 v36 v37 v38 v39 v40 v41 v42 v43 v44 v46 v47 ++ ZP (xg x) a39 v45) [(0, .ref ab), (1, .ref a0), (2, .ref a27), (3, .ref a38), (4, .int z4)] k0 n0 535 [] := by
  induction n generalizing k0 n0 rc rs v2 v3 v4 v19 v23 v39 v40 v44 with
  | zero => exact h.elim
  | succ n ih =>
    unfold P_L_law_L535 at h
    refine xw_aload_n hf (pc := 535) dL_law_535 rfl 1 rfl ?_
    refine xw_aload_n hf (pc := 536) dL_law_536 rfl 0 rfl ?_
    refine xw_iload hf (pc := 537) dL_law_537 4 rfl ?_
    refine xw_iconst hf (pc := 539) dL_law_539 (v := 1) (by decide) ?_
    refine xw_iadd hf (pc := 540) dL_law_540 ?_
    refine xw_sald hf hX dL_law_541 h.1 ?_
    have h := h.2
    refine xw_i2l hf (pc := 542) dL_law_542 ?_
    refine xw_bipush hf (pc := 543) dL_law_543 (v := 32) (by decide) ?_
    refine xw_lshl hf (pc := 545) dL_law_545 ?_
    refine xw_aload_n hf (pc := 546) dL_law_546 rfl 0 rfl ?_
    refine xw_iload hf (pc := 547) dL_law_547 4 rfl ?_
    refine xw_iconst hf (pc := 549) dL_law_549 (v := 2) (by decide) ?_
    refine xw_iadd hf (pc := 550) dL_law_550 ?_
    refine xw_sald hf hX dL_law_551 h.1 ?_
    have h := h.2
    refine xw_i2l hf (pc := 552) dL_law_552 ?_
    refine xw_ldc2 hf (pc := 553) dL_law_553 mw_L_law_0 ?_
    refine xw_land hf (pc := 556) dL_law_556 ?_
    refine xw_lor hf (pc := 557) dL_law_557 ?_
    refine xw_aload_n hf (pc := 558) dL_law_558 rfl 3 rfl ?_
    obtain ⟨mc82, ms83, ⟨hb1, hb2⟩, h⟩ := h
    refine xw_callSW hf (pc := 559) (nA := 3) (Xr := [(a8, .inr (6, [.ref a9, .ref a11, .ref a12])), (a9, .inr (3, [.ref a10])), (a10, .inl (gI (xg x), 32, .inl v5)), (a11, .inl (gI (xg x), 32, .inl v6)), (a12, .inl (gI (xg x), 32, .inl v7)), (a13, .inr (1, [.ref a39, .ref a14, .ref a16, .int v8])), (a14, .inr (3, [.ref a15])), (a15, .inl (gI (xg x), 32, .inl v9)), (a16, .inr (3, [.ref a17])), (a17, .inl (gI (xg x), 32, .inl v10)), (a18, .inr (4, [.ref a19, .ref a21, .ref a23, .int v11, .int v12])), (a19, .inr (3, [.ref a20])), (a20, .inl (gI (xg x), 32, .inl v13)), (a21, .inr (7, [.ref a22, .int v14])), (a22, .inl (gJ (xg x), 60, .inr (.inl v15))), (a23, .inr (7, [.ref a24, .int v16])), (a24, .inl (gJ (xg x), 60, .inr (.inl v17))), (a25, .inr (3, [.ref a26])), (a26, .inl (gI (xg x), 32, .inl v18)), (a27, .inr (9, [.int v19, .ref a28, .int v20, .ref a29, .ref a30, .ref a31, .ref a32, .ref v30, .ref v33, .ref v36, .int v21, .int v22, .ref a33, .int v23, .ref a34, .ref a35, .ref a36, .ref a37, .int v24])), (a28, .inl (gJ (xg x), 60, .inr (.inl v25))), (a29, .inl (gI (xg x), 27, .inl v26)), (a30, .inl (gI (xg x), 27, .inl v27)), (a31, .inl (gI (xg x), 27, .inl v28)), (a32, .inl (gI (xg x), 27, .inl v29)), (v30, .inl (gJ (xg x), v31, .inr (.inl v32))), (v33, .inl (gI (xg x), v34, .inl v35)), (v36, .inl (gZ (xg x), v37, .inl v38)), (a33, .inl (gI (xg x), 12, .inl v39)), (a34, .inl (gI (xg x), 27, .inl v40)), (a35, .inl (gI (xg x), 27, .inl v41)), (a36, .inl (gI (xg x), 60, .inl v42)), (a37, .inl (gI (xg x), 3, .inl v43))] ++ ZP (xg x) a39 v45) (rest := []) (c_L_anagramCount (xl x) (xg x) hst a0 a1 a2 a3 a4 a5 a6 a7 a38 a8 a13 a18 a25 v0 v1 v2 v3 v4 v44 ((((v47 (z4 + 1).toNatClampNeg).toInt64) <<< ((32 : Int32).toInt64 &&& 63)) ||| (((v47 (z4 + 2).toNatClampNeg).toInt64) &&& 4294967295)) h) gL_law_L_anagramCount (by rfl) rfl (by decide +kernel) ⟨⟨(Nat.le_of_ble_eq_true rfl), (Nat.le_of_ble_eq_true rfl)⟩, (Nat.le_trans (show k0 + 1 ≤ k0 + rc by omega) hk.1), (Nat.le_trans (show n0 + 6 ≤ n0 + rs by omega) hk.2)⟩ (Nat.le_of_ble_eq_true rfl) (sb_zr (sb_of [0, 1, 2, 3, 4, 5, 6, 7, 41, 8, 9, 10, 11, 12, 13, 14, 15, 16, 17, 18, 19, 20, 21, 22, 23, 24, 25, 26, 27, 28, 29, 30, 31, 32, 33, 34, 35, 36, 37, 38, 39, 40] rfl rfl)) rfl dL_law_559 (fun v X1 hp => ?_)
    obtain ⟨r77, w78, w79, w80, w81, rfl, rfl, h⟩ := hp
    have hk : k0 + 1 + mc82 ≤ (rm_L_law).cells ∧ n0 + 6 + ms83 ≤ (rm_L_law).slots := ⟨Nat.le_trans (show k0 + 1 + mc82 ≤ k0 + rc by omega) hk.1, Nat.le_trans (show n0 + 6 + ms83 ≤ n0 + rs by omega) hk.2⟩
    refine xw_X (sb_rz (sb_of [0, 1, 2, 3, 4, 5, 6, 7, 9, 10, 11, 12, 13, 14, 15, 16, 17, 18, 19, 20, 21, 22, 23, 24, 25, 26, 27, 28, 29, 30, 31, 32, 33, 34, 35, 36, 37, 38, 39, 40, 41, 8] rfl rfl)) (show ww x (W_L_law (xg x) a0 a1 a2 a3 a4 a5 a6 a7 a8 a9 a10 a11 a12 a13 a14 a15 a16 a17 a18 a19 a20 a21 a22 a23 a24 a25 a26 a27 a28 a29 a30 a31 a32 a33 a34 a35 a36 a37 a38 a39 ab v0 v1 w78 w79 w80 v5 v6 v7 v8 v9 v10 v11 v12 v13 v14 v15 v16 v17 v18 v19 v20 v21 v22 v23 v24 v25 v26 v27 v28 v29 v30 v31 v32 v33 v34 v35 v36 v37 v38 v39 v40 v41 v42 v43 w81 v46 v47 ++ ZP (xg x) a39 v45) [(0, .ref ab), (1, .ref a0), (2, .ref a27), (3, .ref a38), (4, .int z4)] (k0 + 1) (n0 + 6) 562 [.int r77] from ?_)
    refine xw_istore hf (pc := 562) dL_law_562 [(5, .int r77), (0, .ref ab), (1, .ref a0), (2, .ref a27), (3, .ref a38), (4, .int z4)] hn (by decide) rfl ?_
    refine xw_aload_n hf (pc := 564) dL_law_564 rfl 3 rfl ?_
    refine xw_aload_n hf (pc := 565) dL_law_565 rfl 1 rfl ?_
    refine xw_iload hf (pc := 566) dL_law_566 5 rfl ?_
    refine xw_iconst hf (pc := 568) dL_law_568 (v := 1) (by decide) ?_
    refine xw_iadd hf (pc := 569) dL_law_569 ?_
    refine xw_sald hf hX dL_law_570 h.1 ?_
    have h := h.2
    refine xw_i2l hf (pc := 571) dL_law_571 ?_
    refine xw_bipush hf (pc := 572) dL_law_572 (v := 32) (by decide) ?_
    refine xw_lshl hf (pc := 574) dL_law_574 ?_
    refine xw_aload_n hf (pc := 575) dL_law_575 rfl 1 rfl ?_
    refine xw_iload hf (pc := 576) dL_law_576 5 rfl ?_
    refine xw_iconst hf (pc := 578) dL_law_578 (v := 2) (by decide) ?_
    refine xw_iadd hf (pc := 579) dL_law_579 ?_
    refine xw_sald hf hX dL_law_580 h.1 ?_
    have h := h.2
    refine xw_i2l hf (pc := 581) dL_law_581 ?_
    refine xw_ldc2 hf (pc := 582) dL_law_582 mw_L_law_0 ?_
    refine xw_land hf (pc := 585) dL_law_585 ?_
    refine xw_lor hf (pc := 586) dL_law_586 ?_
    refine xw_callV hf (pc := 587) (nA := 1) (Xr := [(a0, .inr (8, [.ref a1, .ref a8, .ref a13, .ref a18, .ref a25])), (a1, .inr (2, [.ref a2, .ref a4, .ref a6])), (a2, .inr (7, [.ref a3, .int v0])), (a3, .inl (gJ (xg x), 60, .inr (.inl v1))), (a4, .inr (7, [.ref a5, .int w78])), (a5, .inl (gJ (xg x), 60, .inr (.inl w79))), (a6, .inr (3, [.ref a7])), (a7, .inl (gI (xg x), 32, .inl w80)), (a8, .inr (6, [.ref a9, .ref a11, .ref a12])), (a9, .inr (3, [.ref a10])), (a10, .inl (gI (xg x), 32, .inl v5)), (a11, .inl (gI (xg x), 32, .inl v6)), (a12, .inl (gI (xg x), 32, .inl v7)), (a13, .inr (1, [.ref a39, .ref a14, .ref a16, .int v8])), (a14, .inr (3, [.ref a15])), (a15, .inl (gI (xg x), 32, .inl v9)), (a16, .inr (3, [.ref a17])), (a17, .inl (gI (xg x), 32, .inl v10)), (a18, .inr (4, [.ref a19, .ref a21, .ref a23, .int v11, .int v12])), (a19, .inr (3, [.ref a20])), (a20, .inl (gI (xg x), 32, .inl v13)), (a21, .inr (7, [.ref a22, .int v14])), (a22, .inl (gJ (xg x), 60, .inr (.inl v15))), (a23, .inr (7, [.ref a24, .int v16])), (a24, .inl (gJ (xg x), 60, .inr (.inl v17))), (a25, .inr (3, [.ref a26])), (a26, .inl (gI (xg x), 32, .inl v18)), (a29, .inl (gI (xg x), 27, .inl v26)), (a30, .inl (gI (xg x), 27, .inl v27)), (a31, .inl (gI (xg x), 27, .inl v28)), (a32, .inl (gI (xg x), 27, .inl v29)), (v30, .inl (gJ (xg x), v31, .inr (.inl v32))), (v33, .inl (gI (xg x), v34, .inl v35)), (v36, .inl (gZ (xg x), v37, .inl v38)), (a35, .inl (gI (xg x), 27, .inl v41)), (a36, .inl (gI (xg x), 60, .inl v42)), (a37, .inl (gI (xg x), 3, .inl v43)), (a38, .inl (gJ (xg x), 1, .inr (.inl w81)))] ++ ZP (xg x) a39 v45) (rest := []) (T := TX9) (c_X9_anagramCount (xl x) (xg x) a27 a28 a33 a34 a29 a30 a31 a32 v30 v33 v36 a35 a36 a37 v19 v20 v21 v22 v23 v24 v25 v39 v40 ((((v47 (z4 + 1).toNatClampNeg).toInt64) <<< ((32 : Int32).toInt64 &&& 63)) ||| (((v47 (z4 + 2).toNatClampNeg).toInt64) &&& 4294967295)) h) gL_law_X9_anagramCount (by rfl) rfl rfl (by decide +kernel) ⟨⟨(Nat.le_of_ble_eq_true rfl), (Nat.le_of_ble_eq_true rfl)⟩, (Nat.le_trans (Nat.le_add_right _ _) hk.1), (Nat.le_trans (Nat.le_add_right _ _) hk.2)⟩ (Nat.le_of_ble_eq_true rfl) rfl rfl (sb_zr (sb_of [27, 28, 36, 37, 0, 1, 2, 3, 4, 5, 6, 7, 8, 9, 10, 11, 12, 13, 14, 15, 16, 17, 18, 19, 20, 21, 22, 23, 24, 25, 26, 29, 30, 31, 32, 33, 34, 35, 38, 39, 40, 41] rfl rfl)) rfl dL_law_587 (fun v X1 hp => ?_)
    obtain ⟨r84, w85, w86, w87, w88, rfl, rfl, h⟩ := hp
    refine xw_X (sb_rz (sb_of [4, 5, 6, 7, 8, 9, 10, 11, 12, 13, 14, 15, 16, 17, 18, 19, 20, 21, 22, 23, 24, 25, 26, 27, 28, 29, 30, 0, 1, 31, 32, 33, 34, 35, 36, 37, 2, 3, 38, 39, 40, 41] rfl rfl)) (show ww x (W_L_law (xg x) a0 a1 a2 a3 a4 a5 a6 a7 a8 a9 a10 a11 a12 a13 a14 a15 a16 a17 a18 a19 a20 a21 a22 a23 a24 a25 a26 a27 a28 a29 a30 a31 a32 a33 a34 a35 a36 a37 a38 a39 ab v0 v1 w78 w79 w80 v5 v6 v7 v8 v9 v10 v11 v12 v13 v14 v15 v16 v17 v18 w85 v20 v21 v22 w86 v24 v25 v26 v27 v28 v29 v30 v31 v32 v33 v34 v35 v36 v37 v38 w87 w88 v41 v42 v43 w81 v46 v47 ++ ZP (xg x) a39 v45) [(5, .int r77), (0, .ref ab), (1, .ref a0), (2, .ref a27), (3, .ref a38), (4, .int z4)] (k0 + 1) (n0 + 6) 590 [.int r84] from ?_)
    refine xw_istore hf (pc := 590) dL_law_590 [(6, .int r84), (5, .int r77), (0, .ref ab), (1, .ref a0), (2, .ref a27), (3, .ref a38), (4, .int z4)] hn (by decide) rfl ?_
    refine xw_aload_n hf (pc := 592) dL_law_592 rfl 4 rfl ?_
    refine xw_callV hf (pc := 593) (nA := 0) (Xr := [(a0, .inr (8, [.ref a1, .ref a8, .ref a13, .ref a18, .ref a25])), (a1, .inr (2, [.ref a2, .ref a4, .ref a6])), (a2, .inr (7, [.ref a3, .int v0])), (a3, .inl (gJ (xg x), 60, .inr (.inl v1))), (a4, .inr (7, [.ref a5, .int w78])), (a5, .inl (gJ (xg x), 60, .inr (.inl w79))), (a6, .inr (3, [.ref a7])), (a7, .inl (gI (xg x), 32, .inl w80)), (a8, .inr (6, [.ref a9, .ref a11, .ref a12])), (a9, .inr (3, [.ref a10])), (a10, .inl (gI (xg x), 32, .inl v5)), (a11, .inl (gI (xg x), 32, .inl v6)), (a12, .inl (gI (xg x), 32, .inl v7)), (a13, .inr (1, [.ref a39, .ref a14, .ref a16, .int v8])), (a14, .inr (3, [.ref a15])), (a15, .inl (gI (xg x), 32, .inl v9)), (a16, .inr (3, [.ref a17])), (a17, .inl (gI (xg x), 32, .inl v10)), (a18, .inr (4, [.ref a19, .ref a21, .ref a23, .int v11, .int v12])), (a19, .inr (3, [.ref a20])), (a20, .inl (gI (xg x), 32, .inl v13)), (a21, .inr (7, [.ref a22, .int v14])), (a22, .inl (gJ (xg x), 60, .inr (.inl v15))), (a23, .inr (7, [.ref a24, .int v16])), (a24, .inl (gJ (xg x), 60, .inr (.inl v17))), (a25, .inr (3, [.ref a26])), (a26, .inl (gI (xg x), 32, .inl v18)), (a28, .inl (gJ (xg x), 60, .inr (.inl v25))), (a29, .inl (gI (xg x), 27, .inl v26)), (a30, .inl (gI (xg x), 27, .inl v27)), (a31, .inl (gI (xg x), 27, .inl v28)), (a32, .inl (gI (xg x), 27, .inl v29)), (v30, .inl (gJ (xg x), v31, .inr (.inl v32))), (v33, .inl (gI (xg x), v34, .inl v35)), (v36, .inl (gZ (xg x), v37, .inl v38)), (a33, .inl (gI (xg x), 12, .inl w87)), (a34, .inl (gI (xg x), 27, .inl w88)), (a35, .inl (gI (xg x), 27, .inl v41)), (a36, .inl (gI (xg x), 60, .inl v42)), (a37, .inl (gI (xg x), 3, .inl v43)), (a38, .inl (gJ (xg x), 1, .inr (.inl w81)))] ++ ZP (xg x) a39 v45) (rest := []) (T := TX9) (c_X9_thrown (xl x) (xg x) a27 a28 a29 a30 a31 a32 v30 v33 v36 a33 a34 a35 a36 a37 w85 v20 v21 v22 w86 v24 h) gL_law_X9_thrown (by rfl) rfl rfl (by decide +kernel) ⟨⟨(Nat.le_of_ble_eq_true rfl), (Nat.le_of_ble_eq_true rfl)⟩, (Nat.le_trans (Nat.le_add_right _ _) hk.1), (Nat.le_trans (Nat.le_add_right _ _) hk.2)⟩ (Nat.le_of_ble_eq_true rfl) rfl rfl (sb_zr (sb_of [27, 0, 1, 2, 3, 4, 5, 6, 7, 8, 9, 10, 11, 12, 13, 14, 15, 16, 17, 18, 19, 20, 21, 22, 23, 24, 25, 26, 28, 29, 30, 31, 32, 33, 34, 35, 36, 37, 38, 39, 40, 41] rfl rfl)) rfl dL_law_593 (fun v X1 hp => ?_)
    obtain ⟨r89, rfl, rfl, h⟩ := hp
    refine xw_X (sb_rz (sb_of [1, 2, 3, 4, 5, 6, 7, 8, 9, 10, 11, 12, 13, 14, 15, 16, 17, 18, 19, 20, 21, 22, 23, 24, 25, 26, 27, 0, 28, 29, 30, 31, 32, 33, 34, 35, 36, 37, 38, 39, 40, 41] rfl rfl)) (show ww x (W_L_law (xg x) a0 a1 a2 a3 a4 a5 a6 a7 a8 a9 a10 a11 a12 a13 a14 a15 a16 a17 a18 a19 a20 a21 a22 a23 a24 a25 a26 a27 a28 a29 a30 a31 a32 a33 a34 a35 a36 a37 a38 a39 ab v0 v1 w78 w79 w80 v5 v6 v7 v8 v9 v10 v11 v12 v13 v14 v15 v16 v17 v18 w85 v20 v21 v22 w86 v24 v25 v26 v27 v28 v29 v30 v31 v32 v33 v34 v35 v36 v37 v38 w87 w88 v41 v42 v43 w81 v46 v47 ++ ZP (xg x) a39 v45) [(6, .int r84), (5, .int r77), (0, .ref ab), (1, .ref a0), (2, .ref a27), (3, .ref a38), (4, .int z4)] (k0 + 1) (n0 + 6) 596 [.int r89] from ?_)
    refine xw_iload hf (pc := 596) dL_law_596 1 rfl ?_
    refine xw_icmp_eq hf (pc := 598) dL_law_598 (tgt := 603) rfl ⟨fun c => ?_, fun c => ?_⟩
    · have h := h.1 c
      refine xw_iload hf (pc := 603) dL_law_603 1 rfl ?_
      refine xw_if_ne hf (pc := 605) dL_law_605 (c := r77 = 0) Iff.rfl (tgt := 620) rfl ⟨fun c => ?_, fun c => ?_⟩
      · have h := h.1 c
        refine xw_aload_n hf (pc := 608) dL_law_608 rfl 5 rfl ?_
        refine xw_iconst hf (pc := 609) dL_law_609 (v := 0) (by decide) ?_
        refine xw_lald hf (pc := 610) dL_law_610 41 rfl h.1 ?_
        have h := h.2
        refine xw_iload hf (pc := 611) dL_law_611 0 rfl ?_
        refine xw_i2l hf (pc := 613) dL_law_613 ?_
        refine xw_lcmp hf (pc := 614) dL_law_614 ?_
        refine xw_if_eq hf (pc := 615) dL_law_615 (c := (w81 (0 : Int32).toNatClampNeg) = r84.toInt64) (lc_eq _ _) (tgt := 620) rfl ⟨fun c => ?_, fun c => ?_⟩
        · have h := h.1 c
          refine xw_goto hf (pc := 620) dL_law_620 (tgt := 2681) rfl ?_
          refine xw_L [2, 3, 4, 5, 6] rfl ?_
          exact hK2681 _ _ _ _ hk _ _ _ _ _ _ _ _ h
        · have h := h.2 c
          refine xw_iconst hf (pc := 618) dL_law_618 (v := 0) (by decide) ?_
          exact h.elim
      · have h := h.2 c
        refine xw_goto hf (pc := 620) dL_law_620 (tgt := 2681) rfl ?_
        refine xw_L [2, 3, 4, 5, 6] rfl ?_
        exact hK2681 _ _ _ _ hk _ _ _ _ _ _ _ _ h
    · have h := h.2 c
      refine xw_iconst hf (pc := 601) dL_law_601 (v := 0) (by decide) ?_
      exact h.elim
