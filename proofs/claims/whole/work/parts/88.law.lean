abbrev W_L_law (g : Gx) (a0 a1 a2 a3 a4 a5 a6 a7 a8 a9 a10 a11 a12 a13 a14 a15 a16 a17 a18 a19 a20 a21 a22 a23 a24 a25 a26 a27 a28 a29 a30 a31 a32 a33 a34 a35 a36 a37 a38 a39 ab : Nat) (v0 : Int32) (v1 : Nat → Int64) (v2 : Int32) (v3 : Nat → Int64) (v4 : Nat → Int32) (v5 : Nat → Int32) (v6 : Nat → Int32) (v7 : Nat → Int32) (v8 : Int32) (v9 : Nat → Int32) (v10 : Nat → Int32) (v11 : Int32) (v12 : Int32) (v13 : Nat → Int32) (v14 : Int32) (v15 : Nat → Int64) (v16 : Int32) (v17 : Nat → Int64) (v18 : Nat → Int32) (v19 : Int32) (v20 : Int32) (v21 : Int32) (v22 : Int32) (v23 : Int32) (v24 : Int32) (v25 : Nat → Int64) (v26 : Nat → Int32) (v27 : Nat → Int32) (v28 : Nat → Int32) (v29 : Nat → Int32) (v30 : Nat) (v31 : Nat) (v32 : Nat → Int64) (v33 : Nat) (v34 : Nat) (v35 : Nat → Int32) (v36 : Nat) (v37 : Nat) (v38 : Nat → Int32) (v39 : Nat → Int32) (v40 : Nat → Int32) (v41 : Nat → Int32) (v42 : Nat → Int32) (v43 : Nat → Int32) (v44 : Nat → Int64) (v46 : Nat) (v47 : Nat → Int32) : va_W := [(a0, .inr (8, [.ref a1, .ref a8, .ref a13, .ref a18, .ref a25])), (a1, .inr (2, [.ref a2, .ref a4, .ref a6])), (a2, .inr (7, [.ref a3, .int v0])), (a3, .inl (gJ g, 60, .inr (.inl v1))), (a4, .inr (7, [.ref a5, .int v2])), (a5, .inl (gJ g, 60, .inr (.inl v3))), (a6, .inr (3, [.ref a7])), (a7, .inl (gI g, 32, .inl v4)), (a8, .inr (6, [.ref a9, .ref a11, .ref a12])), (a9, .inr (3, [.ref a10])), (a10, .inl (gI g, 32, .inl v5)), (a11, .inl (gI g, 32, .inl v6)), (a12, .inl (gI g, 32, .inl v7)), (a13, .inr (1, [.ref a39, .ref a14, .ref a16, .int v8])), (a14, .inr (3, [.ref a15])), (a15, .inl (gI g, 32, .inl v9)), (a16, .inr (3, [.ref a17])), (a17, .inl (gI g, 32, .inl v10)), (a18, .inr (4, [.ref a19, .ref a21, .ref a23, .int v11, .int v12])), (a19, .inr (3, [.ref a20])), (a20, .inl (gI g, 32, .inl v13)), (a21, .inr (7, [.ref a22, .int v14])), (a22, .inl (gJ g, 60, .inr (.inl v15))), (a23, .inr (7, [.ref a24, .int v16])), (a24, .inl (gJ g, 60, .inr (.inl v17))), (a25, .inr (3, [.ref a26])), (a26, .inl (gI g, 32, .inl v18)), (a27, .inr (9, [.int v19, .ref a28, .int v20, .ref a29, .ref a30, .ref a31, .ref a32, .ref v30, .ref v33, .ref v36, .int v21, .int v22, .ref a33, .int v23, .ref a34, .ref a35, .ref a36, .ref a37, .int v24])), (a28, .inl (gJ g, 60, .inr (.inl v25))), (a29, .inl (gI g, 27, .inl v26)), (a30, .inl (gI g, 27, .inl v27)), (a31, .inl (gI g, 27, .inl v28)), (a32, .inl (gI g, 27, .inl v29)), (v30, .inl (gJ g, v31, .inr (.inl v32))), (v33, .inl (gI g, v34, .inl v35)), (v36, .inl (gZ g, v37, .inl v38)), (a33, .inl (gI g, 12, .inl v39)), (a34, .inl (gI g, 27, .inl v40)), (a35, .inl (gI g, 27, .inl v41)), (a36, .inl (gI g, 60, .inl v42)), (a37, .inl (gI g, 3, .inl v43)), (a38, .inl (gJ g, 1, .inr (.inl v44)))]
abbrev rm_L_law : Room := room_1
set_option maxRecDepth 20000 in
theorem mw_L_law_0 : (Cond.constantLong RL 123 (4294967295) : Cond) ∈ wsL_law := (List.mem_append_left _ (List.mem_append_left _ (List.mem_append_left _ (List.mem_append_left _ (List.mem_append_left _ (List.mem_append_left _ (List.mem_append_left _ (List.mem_append_left _ (List.mem_append_left _ (List.mem_append_left _ (List.mem_append_left _ (List.mem_append_left _ (List.mem_append_left _ (List.mem_append_left _ (List.mem_append_left _ (List.mem_append_left _ (List.mem_of_getElem? (l := wsL_law0_r1) (i := 7) rfl)))))))))))))))))
set_option maxHeartbeats 4000000 in
set_option maxRecDepth 100000 in
theorem w_L_law_L196 {x : Cx} {mc ms : Nat} (hf : fx x (rm_L_law) RL cL_law wsL_law) (hn : xn x = 8) {k0 n0 rc rs : Nat} (hk : k0 + rc ≤ (rm_L_law).cells ∧ n0 + rs ≤ (rm_L_law).slots) (a0 a1 a2 a3 a4 a5 a6 a7 a8 a9 a10 a11 a12 a13 a14 a15 a16 a17 a18 a19 a20 a21 a22 a23 a24 a25 a26 a27 a28 a29 a30 a31 a32 a33 a34 a35 a36 a37 a38 a39 ab : Nat) (z4 : Int32) (v21 : Int32) (v22 : Int32) (v23 : Int32) (v24 : Int32) (v46 : Nat) (v47 : Nat → Int32) (v2 : Int32) (v3 : Nat → Int64) (v4 : Nat → Int32) (v5 : Nat → Int32) (v6 : Nat → Int32) (v7 : Nat → Int32) (v8 : Int32) (v9 : Nat → Int32) (v10 : Nat → Int32) (v11 : Int32) (v12 : Int32) (v13 : Nat → Int32) (v14 : Int32) (v15 : Nat → Int64) (v16 : Int32) (v17 : Nat → Int64) (v18 : Nat → Int32) (v26 : Nat → Int32) (v27 : Nat → Int32) (v28 : Nat → Int32) (v29 : Nat → Int32) (v30 : Nat) (v31 : Nat) (v32 : Nat → Int64) (v33 : Nat) (v34 : Nat) (v35 : Nat → Int32) (v36 : Nat) (v37 : Nat) (v38 : Nat → Int32) (v39 : Nat → Int32) (v40 : Nat → Int32) (v41 : Nat → Int32) (v42 : Nat → Int32) (v43 : Nat → Int32) (v45 : ZL) {K2681 : Nat → Nat → Int32 → (Nat → Int64) → Int32 → Int32 → (Nat → Int64) → (Nat → Int64) → Prop} (hst : (xl x).stackTraces = false) (hX : sX x ab v46 v47)
    (n : Nat) (v0 : Int32) (v1 : Nat → Int64) (v19 : Int32) (v20 : Int32) (v25 : Nat → Int64) (v44 : Nat → Int64) (h : P_L_law_L196 z4 v21 v22 v23 v24 v46 v47 K2681 n rc rs v0 v1 v19 v20 v25 v44)
    (hK2681 : ∀ (k0 n0 rc rs : Nat), k0 + rc ≤ (rm_L_law).cells ∧ n0 + rs ≤ (rm_L_law).slots → ∀ (uv0 : Int32), ∀ (uv1 : Nat → Int64), ∀ (uv19 : Int32), ∀ (uv20 : Int32), ∀ (uv25 : Nat → Int64), ∀ (uv44 : Nat → Int64), K2681 rc rs uv0 uv1 uv19 uv20 uv25 uv44 → ww x (W_L_law (xg x) a0 a1 a2 a3 a4 a5 a6 a7 a8 a9 a10 a11 a12 a13 a14 a15 a16 a17 a18 a19 a20 a21 a22 a23 a24 a25 a26 a27 a28 a29 a30 a31 a32 a33 a34 a35 a36 a37 a38 a39 ab uv0 uv1 v2 v3 v4 v5 v6 v7 v8 v9 v10 v11 v12 v13 v14 v15 v16 v17 v18 uv19 uv20 v21 v22 v23 v24 uv25 v26 v27 v28 v29 v30 v31 v32 v33 v34 v35 v36 v37 v38 v39 v40 v41 v42 v43 uv44 v46 v47 ++ ZP (xg x) a39 v45) [(0, .ref ab), (1, .ref a0), (2, .ref a27), (3, .ref a38), (4, .int z4)] k0 n0 2681 []) :
    ww x (W_L_law (xg x) a0 a1 a2 a3 a4 a5 a6 a7 a8 a9 a10 a11 a12 a13 a14 a15 a16 a17 a18 a19 a20 a21 a22 a23 a24 a25 a26 a27 a28 a29 a30 a31 a32 a33 a34 a35 a36 a37 a38 a39 ab v0 v1 v2 v3 v4 v5 v6 v7 v8 v9 v10 v11 v12 v13 v14 v15 v16 v17 v18 v19 v20 v21 v22 v23 v24 v25 v26 v27 v28 v29 v30 v31 v32 v33 v34 v35 v36 v37 v38 v39 v40 v41 v42 v43 v44 v46 v47 ++ ZP (xg x) a39 v45) [(0, .ref ab), (1, .ref a0), (2, .ref a27), (3, .ref a38), (4, .int z4)] k0 n0 196 [] := by
  induction n generalizing k0 n0 rc rs v0 v1 v19 v20 v25 v44 with
  | zero => exact h.elim
  | succ n ih =>
    unfold P_L_law_L196 at h
    refine xw_aload_n hf (pc := 196) dL_law_196 rfl 1 rfl ?_
    refine xw_aload_n hf (pc := 197) dL_law_197 rfl 0 rfl ?_
    refine xw_iload hf (pc := 198) dL_law_198 4 rfl ?_
    refine xw_iconst hf (pc := 200) dL_law_200 (v := 1) (by decide) ?_
    refine xw_iadd hf (pc := 201) dL_law_201 ?_
    refine xw_sald hf hX dL_law_202 h.1 ?_
    have h := h.2
    refine xw_i2l hf (pc := 203) dL_law_203 ?_
    refine xw_bipush hf (pc := 204) dL_law_204 (v := 32) (by decide) ?_
    refine xw_lshl hf (pc := 206) dL_law_206 ?_
    refine xw_aload_n hf (pc := 207) dL_law_207 rfl 0 rfl ?_
    refine xw_iload hf (pc := 208) dL_law_208 4 rfl ?_
    refine xw_iconst hf (pc := 210) dL_law_210 (v := 2) (by decide) ?_
    refine xw_iadd hf (pc := 211) dL_law_211 ?_
    refine xw_sald hf hX dL_law_212 h.1 ?_
    have h := h.2
    refine xw_i2l hf (pc := 213) dL_law_213 ?_
    refine xw_ldc2 hf (pc := 214) dL_law_214 mw_L_law_0 ?_
    refine xw_land hf (pc := 217) dL_law_217 ?_
    refine xw_lor hf (pc := 218) dL_law_218 ?_
    refine xw_aload_n hf (pc := 219) dL_law_219 rfl 3 rfl ?_
    obtain ⟨mc5, ms6, ⟨hb1, hb2⟩, h⟩ := h
    refine xw_callSW hf (pc := 220) (nA := 3) (Xr := [(a4, .inr (7, [.ref a5, .int v2])), (a5, .inl (gJ (xg x), 60, .inr (.inl v3))), (a6, .inr (3, [.ref a7])), (a7, .inl (gI (xg x), 32, .inl v4)), (a8, .inr (6, [.ref a9, .ref a11, .ref a12])), (a9, .inr (3, [.ref a10])), (a10, .inl (gI (xg x), 32, .inl v5)), (a11, .inl (gI (xg x), 32, .inl v6)), (a12, .inl (gI (xg x), 32, .inl v7)), (a13, .inr (1, [.ref a39, .ref a14, .ref a16, .int v8])), (a14, .inr (3, [.ref a15])), (a15, .inl (gI (xg x), 32, .inl v9)), (a16, .inr (3, [.ref a17])), (a17, .inl (gI (xg x), 32, .inl v10)), (a18, .inr (4, [.ref a19, .ref a21, .ref a23, .int v11, .int v12])), (a19, .inr (3, [.ref a20])), (a20, .inl (gI (xg x), 32, .inl v13)), (a21, .inr (7, [.ref a22, .int v14])), (a22, .inl (gJ (xg x), 60, .inr (.inl v15))), (a23, .inr (7, [.ref a24, .int v16])), (a24, .inl (gJ (xg x), 60, .inr (.inl v17))), (a25, .inr (3, [.ref a26])), (a26, .inl (gI (xg x), 32, .inl v18)), (a27, .inr (9, [.int v19, .ref a28, .int v20, .ref a29, .ref a30, .ref a31, .ref a32, .ref v30, .ref v33, .ref v36, .int v21, .int v22, .ref a33, .int v23, .ref a34, .ref a35, .ref a36, .ref a37, .int v24])), (a28, .inl (gJ (xg x), 60, .inr (.inl v25))), (a29, .inl (gI (xg x), 27, .inl v26)), (a30, .inl (gI (xg x), 27, .inl v27)), (a31, .inl (gI (xg x), 27, .inl v28)), (a32, .inl (gI (xg x), 27, .inl v29)), (v30, .inl (gJ (xg x), v31, .inr (.inl v32))), (v33, .inl (gI (xg x), v34, .inl v35)), (v36, .inl (gZ (xg x), v37, .inl v38)), (a33, .inl (gI (xg x), 12, .inl v39)), (a34, .inl (gI (xg x), 27, .inl v40)), (a35, .inl (gI (xg x), 27, .inl v41)), (a36, .inl (gI (xg x), 60, .inl v42)), (a37, .inl (gI (xg x), 3, .inl v43))] ++ ZP (xg x) a39 v45) (rest := []) (c_L_addWord (xl x) (xg x) hst a0 a1 a2 a3 a38 a8 a13 a18 a25 a4 a6 v0 v1 v44 ((((v47 (z4 + 1).toNatClampNeg).toInt64) <<< ((32 : Int32).toInt64 &&& 63)) ||| (((v47 (z4 + 2).toNatClampNeg).toInt64) &&& 4294967295)) h) gL_law_L_addWord (by rfl) rfl (by decide +kernel) ⟨⟨(Nat.le_of_ble_eq_true rfl), (Nat.le_of_ble_eq_true rfl)⟩, (Nat.le_trans (show k0 + 2 ≤ k0 + rc by omega) hk.1), (Nat.le_trans (show n0 + 12 ≤ n0 + rs by omega) hk.2)⟩ (Nat.le_of_ble_eq_true rfl) (sb_zr (sb_of [0, 1, 2, 3, 41, 4, 5, 6, 7, 8, 9, 10, 11, 12, 13, 14, 15, 16, 17, 18, 19, 20, 21, 22, 23, 24, 25, 26, 27, 28, 29, 30, 31, 32, 33, 34, 35, 36, 37, 38, 39, 40] rfl rfl)) rfl dL_law_220 (fun v X1 hp => ?_)
    obtain ⟨r1, w2, w3, w4, rfl, rfl, h⟩ := hp
    have hk : k0 + 2 + mc5 ≤ (rm_L_law).cells ∧ n0 + 12 + ms6 ≤ (rm_L_law).slots := ⟨Nat.le_trans (show k0 + 2 + mc5 ≤ k0 + rc by omega) hk.1, Nat.le_trans (show n0 + 12 + ms6 ≤ n0 + rs by omega) hk.2⟩
    refine xw_X (sb_rz (sb_of [0, 1, 2, 3, 5, 6, 7, 8, 9, 10, 11, 12, 13, 14, 15, 16, 17, 18, 19, 20, 21, 22, 23, 24, 25, 26, 27, 28, 29, 30, 31, 32, 33, 34, 35, 36, 37, 38, 39, 40, 41, 4] rfl rfl)) (show ww x (W_L_law (xg x) a0 a1 a2 a3 a4 a5 a6 a7 a8 a9 a10 a11 a12 a13 a14 a15 a16 a17 a18 a19 a20 a21 a22 a23 a24 a25 a26 a27 a28 a29 a30 a31 a32 a33 a34 a35 a36 a37 a38 a39 ab w2 w3 v2 v3 v4 v5 v6 v7 v8 v9 v10 v11 v12 v13 v14 v15 v16 v17 v18 v19 v20 v21 v22 v23 v24 v25 v26 v27 v28 v29 v30 v31 v32 v33 v34 v35 v36 v37 v38 v39 v40 v41 v42 v43 w4 v46 v47 ++ ZP (xg x) a39 v45) [(0, .ref ab), (1, .ref a0), (2, .ref a27), (3, .ref a38), (4, .int z4)] (k0 + 2) (n0 + 12) 223 [.int r1] from ?_)
    refine xw_istore hf (pc := 223) dL_law_223 [(5, .int r1), (0, .ref ab), (1, .ref a0), (2, .ref a27), (3, .ref a38), (4, .int z4)] hn (by decide) rfl ?_
    refine xw_aload_n hf (pc := 225) dL_law_225 rfl 3 rfl ?_
    refine xw_aload_n hf (pc := 226) dL_law_226 rfl 1 rfl ?_
    refine xw_iload hf (pc := 227) dL_law_227 5 rfl ?_
    refine xw_iconst hf (pc := 229) dL_law_229 (v := 1) (by decide) ?_
    refine xw_iadd hf (pc := 230) dL_law_230 ?_
    refine xw_sald hf hX dL_law_231 h.1 ?_
    have h := h.2
    refine xw_i2l hf (pc := 232) dL_law_232 ?_
    refine xw_bipush hf (pc := 233) dL_law_233 (v := 32) (by decide) ?_
    refine xw_lshl hf (pc := 235) dL_law_235 ?_
    refine xw_aload_n hf (pc := 236) dL_law_236 rfl 1 rfl ?_
    refine xw_iload hf (pc := 237) dL_law_237 5 rfl ?_
    refine xw_iconst hf (pc := 239) dL_law_239 (v := 2) (by decide) ?_
    refine xw_iadd hf (pc := 240) dL_law_240 ?_
    refine xw_sald hf hX dL_law_241 h.1 ?_
    have h := h.2
    refine xw_i2l hf (pc := 242) dL_law_242 ?_
    refine xw_ldc2 hf (pc := 243) dL_law_243 mw_L_law_0 ?_
    refine xw_land hf (pc := 246) dL_law_246 ?_
    refine xw_lor hf (pc := 247) dL_law_247 ?_
    refine xw_callV hf (pc := 248) (nA := 1) (Xr := [(a0, .inr (8, [.ref a1, .ref a8, .ref a13, .ref a18, .ref a25])), (a1, .inr (2, [.ref a2, .ref a4, .ref a6])), (a2, .inr (7, [.ref a3, .int w2])), (a3, .inl (gJ (xg x), 60, .inr (.inl w3))), (a4, .inr (7, [.ref a5, .int v2])), (a5, .inl (gJ (xg x), 60, .inr (.inl v3))), (a6, .inr (3, [.ref a7])), (a7, .inl (gI (xg x), 32, .inl v4)), (a8, .inr (6, [.ref a9, .ref a11, .ref a12])), (a9, .inr (3, [.ref a10])), (a10, .inl (gI (xg x), 32, .inl v5)), (a11, .inl (gI (xg x), 32, .inl v6)), (a12, .inl (gI (xg x), 32, .inl v7)), (a13, .inr (1, [.ref a39, .ref a14, .ref a16, .int v8])), (a14, .inr (3, [.ref a15])), (a15, .inl (gI (xg x), 32, .inl v9)), (a16, .inr (3, [.ref a17])), (a17, .inl (gI (xg x), 32, .inl v10)), (a18, .inr (4, [.ref a19, .ref a21, .ref a23, .int v11, .int v12])), (a19, .inr (3, [.ref a20])), (a20, .inl (gI (xg x), 32, .inl v13)), (a21, .inr (7, [.ref a22, .int v14])), (a22, .inl (gJ (xg x), 60, .inr (.inl v15))), (a23, .inr (7, [.ref a24, .int v16])), (a24, .inl (gJ (xg x), 60, .inr (.inl v17))), (a25, .inr (3, [.ref a26])), (a26, .inl (gI (xg x), 32, .inl v18)), (a29, .inl (gI (xg x), 27, .inl v26)), (a30, .inl (gI (xg x), 27, .inl v27)), (a31, .inl (gI (xg x), 27, .inl v28)), (a32, .inl (gI (xg x), 27, .inl v29)), (v30, .inl (gJ (xg x), v31, .inr (.inl v32))), (v33, .inl (gI (xg x), v34, .inl v35)), (v36, .inl (gZ (xg x), v37, .inl v38)), (a33, .inl (gI (xg x), 12, .inl v39)), (a34, .inl (gI (xg x), 27, .inl v40)), (a35, .inl (gI (xg x), 27, .inl v41)), (a36, .inl (gI (xg x), 60, .inl v42)), (a37, .inl (gI (xg x), 3, .inl v43)), (a38, .inl (gJ (xg x), 1, .inr (.inl w4)))] ++ ZP (xg x) a39 v45) (rest := []) (T := TX9) (c_X9_addWord (xl x) (xg x) a27 a28 a29 a30 a31 a32 v30 v33 v36 a33 a34 a35 a36 a37 v19 v20 v21 v22 v23 v24 v25 ((((v47 (z4 + 1).toNatClampNeg).toInt64) <<< ((32 : Int32).toInt64 &&& 63)) ||| (((v47 (z4 + 2).toNatClampNeg).toInt64) &&& 4294967295)) h) gL_law_X9_addWord (by rfl) rfl rfl (by decide +kernel) ⟨⟨(Nat.le_of_ble_eq_true rfl), (Nat.le_of_ble_eq_true rfl)⟩, (Nat.le_trans (Nat.le_add_right _ _) hk.1), (Nat.le_trans (Nat.le_add_right _ _) hk.2)⟩ (Nat.le_of_ble_eq_true rfl) rfl rfl (sb_zr (sb_of [27, 28, 0, 1, 2, 3, 4, 5, 6, 7, 8, 9, 10, 11, 12, 13, 14, 15, 16, 17, 18, 19, 20, 21, 22, 23, 24, 25, 26, 29, 30, 31, 32, 33, 34, 35, 36, 37, 38, 39, 40, 41] rfl rfl)) rfl dL_law_248 (fun v X1 hp => ?_)
    obtain ⟨r7, w8, w9, w10, rfl, rfl, h⟩ := hp
    refine xw_X (sb_rz (sb_of [2, 3, 4, 5, 6, 7, 8, 9, 10, 11, 12, 13, 14, 15, 16, 17, 18, 19, 20, 21, 22, 23, 24, 25, 26, 27, 28, 0, 1, 29, 30, 31, 32, 33, 34, 35, 36, 37, 38, 39, 40, 41] rfl rfl)) (show ww x (W_L_law (xg x) a0 a1 a2 a3 a4 a5 a6 a7 a8 a9 a10 a11 a12 a13 a14 a15 a16 a17 a18 a19 a20 a21 a22 a23 a24 a25 a26 a27 a28 a29 a30 a31 a32 a33 a34 a35 a36 a37 a38 a39 ab w2 w3 v2 v3 v4 v5 v6 v7 v8 v9 v10 v11 v12 v13 v14 v15 v16 v17 v18 w8 w9 v21 v22 v23 v24 w10 v26 v27 v28 v29 v30 v31 v32 v33 v34 v35 v36 v37 v38 v39 v40 v41 v42 v43 w4 v46 v47 ++ ZP (xg x) a39 v45) [(5, .int r1), (0, .ref ab), (1, .ref a0), (2, .ref a27), (3, .ref a38), (4, .int z4)] (k0 + 2) (n0 + 12) 251 [.int r7] from ?_)
    refine xw_istore hf (pc := 251) dL_law_251 [(6, .int r7), (5, .int r1), (0, .ref ab), (1, .ref a0), (2, .ref a27), (3, .ref a38), (4, .int z4)] hn (by decide) rfl ?_
    refine xw_aload_n hf (pc := 253) dL_law_253 rfl 4 rfl ?_
    refine xw_callV hf (pc := 254) (nA := 0) (Xr := [(a0, .inr (8, [.ref a1, .ref a8, .ref a13, .ref a18, .ref a25])), (a1, .inr (2, [.ref a2, .ref a4, .ref a6])), (a2, .inr (7, [.ref a3, .int w2])), (a3, .inl (gJ (xg x), 60, .inr (.inl w3))), (a4, .inr (7, [.ref a5, .int v2])), (a5, .inl (gJ (xg x), 60, .inr (.inl v3))), (a6, .inr (3, [.ref a7])), (a7, .inl (gI (xg x), 32, .inl v4)), (a8, .inr (6, [.ref a9, .ref a11, .ref a12])), (a9, .inr (3, [.ref a10])), (a10, .inl (gI (xg x), 32, .inl v5)), (a11, .inl (gI (xg x), 32, .inl v6)), (a12, .inl (gI (xg x), 32, .inl v7)), (a13, .inr (1, [.ref a39, .ref a14, .ref a16, .int v8])), (a14, .inr (3, [.ref a15])), (a15, .inl (gI (xg x), 32, .inl v9)), (a16, .inr (3, [.ref a17])), (a17, .inl (gI (xg x), 32, .inl v10)), (a18, .inr (4, [.ref a19, .ref a21, .ref a23, .int v11, .int v12])), (a19, .inr (3, [.ref a20])), (a20, .inl (gI (xg x), 32, .inl v13)), (a21, .inr (7, [.ref a22, .int v14])), (a22, .inl (gJ (xg x), 60, .inr (.inl v15))), (a23, .inr (7, [.ref a24, .int v16])), (a24, .inl (gJ (xg x), 60, .inr (.inl v17))), (a25, .inr (3, [.ref a26])), (a26, .inl (gI (xg x), 32, .inl v18)), (a28, .inl (gJ (xg x), 60, .inr (.inl w10))), (a29, .inl (gI (xg x), 27, .inl v26)), (a30, .inl (gI (xg x), 27, .inl v27)), (a31, .inl (gI (xg x), 27, .inl v28)), (a32, .inl (gI (xg x), 27, .inl v29)), (v30, .inl (gJ (xg x), v31, .inr (.inl v32))), (v33, .inl (gI (xg x), v34, .inl v35)), (v36, .inl (gZ (xg x), v37, .inl v38)), (a33, .inl (gI (xg x), 12, .inl v39)), (a34, .inl (gI (xg x), 27, .inl v40)), (a35, .inl (gI (xg x), 27, .inl v41)), (a36, .inl (gI (xg x), 60, .inl v42)), (a37, .inl (gI (xg x), 3, .inl v43)), (a38, .inl (gJ (xg x), 1, .inr (.inl w4)))] ++ ZP (xg x) a39 v45) (rest := []) (T := TX9) (c_X9_thrown (xl x) (xg x) a27 a28 a29 a30 a31 a32 v30 v33 v36 a33 a34 a35 a36 a37 w8 w9 v21 v22 v23 v24 h) gL_law_X9_thrown (by rfl) rfl rfl (by decide +kernel) ⟨⟨(Nat.le_of_ble_eq_true rfl), (Nat.le_of_ble_eq_true rfl)⟩, (Nat.le_trans (Nat.le_add_right _ _) hk.1), (Nat.le_trans (Nat.le_add_right _ _) hk.2)⟩ (Nat.le_of_ble_eq_true rfl) rfl rfl (sb_zr (sb_of [27, 0, 1, 2, 3, 4, 5, 6, 7, 8, 9, 10, 11, 12, 13, 14, 15, 16, 17, 18, 19, 20, 21, 22, 23, 24, 25, 26, 28, 29, 30, 31, 32, 33, 34, 35, 36, 37, 38, 39, 40, 41] rfl rfl)) rfl dL_law_254 (fun v X1 hp => ?_)
    obtain ⟨r11, rfl, rfl, h⟩ := hp
    refine xw_X (sb_rz (sb_of [1, 2, 3, 4, 5, 6, 7, 8, 9, 10, 11, 12, 13, 14, 15, 16, 17, 18, 19, 20, 21, 22, 23, 24, 25, 26, 27, 0, 28, 29, 30, 31, 32, 33, 34, 35, 36, 37, 38, 39, 40, 41] rfl rfl)) (show ww x (W_L_law (xg x) a0 a1 a2 a3 a4 a5 a6 a7 a8 a9 a10 a11 a12 a13 a14 a15 a16 a17 a18 a19 a20 a21 a22 a23 a24 a25 a26 a27 a28 a29 a30 a31 a32 a33 a34 a35 a36 a37 a38 a39 ab w2 w3 v2 v3 v4 v5 v6 v7 v8 v9 v10 v11 v12 v13 v14 v15 v16 v17 v18 w8 w9 v21 v22 v23 v24 w10 v26 v27 v28 v29 v30 v31 v32 v33 v34 v35 v36 v37 v38 v39 v40 v41 v42 v43 w4 v46 v47 ++ ZP (xg x) a39 v45) [(6, .int r7), (5, .int r1), (0, .ref ab), (1, .ref a0), (2, .ref a27), (3, .ref a38), (4, .int z4)] (k0 + 2) (n0 + 12) 257 [.int r11] from ?_)
    refine xw_iload hf (pc := 257) dL_law_257 1 rfl ?_
    refine xw_icmp_eq hf (pc := 259) dL_law_259 (tgt := 264) rfl ⟨fun c => ?_, fun c => ?_⟩
    · have h := h.1 c
      refine xw_iload hf (pc := 264) dL_law_264 1 rfl ?_
      refine xw_if_ne hf (pc := 266) dL_law_266 (c := r1 = 0) Iff.rfl (tgt := 281) rfl ⟨fun c => ?_, fun c => ?_⟩
      · have h := h.1 c
        refine xw_aload_n hf (pc := 269) dL_law_269 rfl 5 rfl ?_
        refine xw_iconst hf (pc := 270) dL_law_270 (v := 0) (by decide) ?_
        refine xw_lald hf (pc := 271) dL_law_271 41 rfl h.1 ?_
        have h := h.2
        refine xw_iload hf (pc := 272) dL_law_272 0 rfl ?_
        refine xw_i2l hf (pc := 274) dL_law_274 ?_
        refine xw_lcmp hf (pc := 275) dL_law_275 ?_
        refine xw_if_eq hf (pc := 276) dL_law_276 (c := (w4 (0 : Int32).toNatClampNeg) = r7.toInt64) (lc_eq _ _) (tgt := 281) rfl ⟨fun c => ?_, fun c => ?_⟩
        · have h := h.1 c
          refine xw_goto hf (pc := 281) dL_law_281 (tgt := 2681) rfl ?_
          refine xw_L [2, 3, 4, 5, 6] rfl ?_
          exact hK2681 _ _ _ _ hk _ _ _ _ _ _ h
        · have h := h.2 c
          refine xw_iconst hf (pc := 279) dL_law_279 (v := 0) (by decide) ?_
          exact h.elim
      · have h := h.2 c
        refine xw_goto hf (pc := 281) dL_law_281 (tgt := 2681) rfl ?_
        refine xw_L [2, 3, 4, 5, 6] rfl ?_
        exact hK2681 _ _ _ _ hk _ _ _ _ _ _ h
    · have h := h.2 c
      refine xw_iconst hf (pc := 262) dL_law_262 (v := 0) (by decide) ?_
      exact h.elim
set_option maxHeartbeats 4000000 in
set_option maxRecDepth 100000 in
theorem w_L_law_L284 {x : Cx} {mc ms : Nat} (hf : fx x (rm_L_law) RL cL_law wsL_law) (hn : xn x = 8) {k0 n0 rc rs : Nat} (hk : k0 + rc ≤ (rm_L_law).cells ∧ n0 + rs ≤ (rm_L_law).slots) (a0 a1 a2 a3 a4 a5 a6 a7 a8 a9 a10 a11 a12 a13 a14 a15 a16 a17 a18 a19 a20 a21 a22 a23 a24 a25 a26 a27 a28 a29 a30 a31 a32 a33 a34 a35 a36 a37 a38 a39 ab : Nat) (z4 : Int32) (v21 : Int32) (v22 : Int32) (v23 : Int32) (v24 : Int32) (v46 : Nat) (v47 : Nat → Int32) (v2 : Int32) (v3 : Nat → Int64) (v4 : Nat → Int32) (v5 : Nat → Int32) (v6 : Nat → Int32) (v7 : Nat → Int32) (v8 : Int32) (v9 : Nat → Int32) (v10 : Nat → Int32) (v11 : Int32) (v12 : Int32) (v13 : Nat → Int32) (v14 : Int32) (v15 : Nat → Int64) (v16 : Int32) (v17 : Nat → Int64) (v18 : Nat → Int32) (v26 : Nat → Int32) (v27 : Nat → Int32) (v28 : Nat → Int32) (v29 : Nat → Int32) (v30 : Nat) (v31 : Nat) (v32 : Nat → Int64) (v33 : Nat) (v34 : Nat) (v35 : Nat → Int32) (v36 : Nat) (v37 : Nat) (v38 : Nat → Int32) (v39 : Nat → Int32) (v40 : Nat → Int32) (v41 : Nat → Int32) (v42 : Nat → Int32) (v43 : Nat → Int32) (v45 : ZL) {K2681 : Nat → Nat → Int32 → (Nat → Int64) → Int32 → Int32 → (Nat → Int64) → (Nat → Int64) → Prop} (hst : (xl x).stackTraces = false) (hX : sX x ab v46 v47)
    (n : Nat) (v0 : Int32) (v1 : Nat → Int64) (v19 : Int32) (v20 : Int32) (v25 : Nat → Int64) (v44 : Nat → Int64) (h : P_L_law_L284 z4 v21 v22 v23 v24 v46 v47 K2681 n rc rs v0 v1 v19 v20 v25 v44)
    (hK2681 : ∀ (k0 n0 rc rs : Nat), k0 + rc ≤ (rm_L_law).cells ∧ n0 + rs ≤ (rm_L_law).slots → ∀ (uv0 : Int32), ∀ (uv1 : Nat → Int64), ∀ (uv19 : Int32), ∀ (uv20 : Int32), ∀ (uv25 : Nat → Int64), ∀ (uv44 : Nat → Int64), K2681 rc rs uv0 uv1 uv19 uv20 uv25 uv44 → ww x (W_L_law (xg x) a0 a1 a2 a3 a4 a5 a6 a7 a8 a9 a10 a11 a12 a13 a14 a15 a16 a17 a18 a19 a20 a21 a22 a23 a24 a25 a26 a27 a28 a29 a30 a31 a32 a33 a34 a35 a36 a37 a38 a39 ab uv0 uv1 v2 v3 v4 v5 v6 v7 v8 v9 v10 v11 v12 v13 v14 v15 v16 v17 v18 uv19 uv20 v21 v22 v23 v24 uv25 v26 v27 v28 v29 v30 v31 v32 v33 v34 v35 v36 v37 v38 v39 v40 v41 v42 v43 uv44 v46 v47 ++ ZP (xg x) a39 v45) [(0, .ref ab), (1, .ref a0), (2, .ref a27), (3, .ref a38), (4, .int z4)] k0 n0 2681 []) :
    ww x (W_L_law (xg x) a0 a1 a2 a3 a4 a5 a6 a7 a8 a9 a10 a11 a12 a13 a14 a15 a16 a17 a18 a19 a20 a21 a22 a23 a24 a25 a26 a27 a28 a29 a30 a31 a32 a33 a34 a35 a36 a37 a38 a39 ab v0 v1 v2 v3 v4 v5 v6 v7 v8 v9 v10 v11 v12 v13 v14 v15 v16 v17 v18 v19 v20 v21 v22 v23 v24 v25 v26 v27 v28 v29 v30 v31 v32 v33 v34 v35 v36 v37 v38 v39 v40 v41 v42 v43 v44 v46 v47 ++ ZP (xg x) a39 v45) [(0, .ref ab), (1, .ref a0), (2, .ref a27), (3, .ref a38), (4, .int z4)] k0 n0 284 [] := by
  induction n generalizing k0 n0 rc rs v0 v1 v19 v20 v25 v44 with
  | zero => exact h.elim
  | succ n ih =>
    unfold P_L_law_L284 at h
    refine xw_aload_n hf (pc := 284) dL_law_284 rfl 1 rfl ?_
    refine xw_aload_n hf (pc := 285) dL_law_285 rfl 0 rfl ?_
    refine xw_iload hf (pc := 286) dL_law_286 4 rfl ?_
    refine xw_iconst hf (pc := 288) dL_law_288 (v := 1) (by decide) ?_
    refine xw_iadd hf (pc := 289) dL_law_289 ?_
    refine xw_sald hf hX dL_law_290 h.1 ?_
    have h := h.2
    refine xw_i2l hf (pc := 291) dL_law_291 ?_
    refine xw_bipush hf (pc := 292) dL_law_292 (v := 32) (by decide) ?_
    refine xw_lshl hf (pc := 294) dL_law_294 ?_
    refine xw_aload_n hf (pc := 295) dL_law_295 rfl 0 rfl ?_
    refine xw_iload hf (pc := 296) dL_law_296 4 rfl ?_
    refine xw_iconst hf (pc := 298) dL_law_298 (v := 2) (by decide) ?_
    refine xw_iadd hf (pc := 299) dL_law_299 ?_
    refine xw_sald hf hX dL_law_300 h.1 ?_
    have h := h.2
    refine xw_i2l hf (pc := 301) dL_law_301 ?_
    refine xw_ldc2 hf (pc := 302) dL_law_302 mw_L_law_0 ?_
    refine xw_land hf (pc := 305) dL_law_305 ?_
    refine xw_lor hf (pc := 306) dL_law_306 ?_
    refine xw_aload_n hf (pc := 307) dL_law_307 rfl 3 rfl ?_
    obtain ⟨mc26, ms27, ⟨hb1, hb2⟩, h⟩ := h
    refine xw_callSW hf (pc := 308) (nA := 3) (Xr := [(a4, .inr (7, [.ref a5, .int v2])), (a5, .inl (gJ (xg x), 60, .inr (.inl v3))), (a6, .inr (3, [.ref a7])), (a7, .inl (gI (xg x), 32, .inl v4)), (a8, .inr (6, [.ref a9, .ref a11, .ref a12])), (a9, .inr (3, [.ref a10])), (a10, .inl (gI (xg x), 32, .inl v5)), (a11, .inl (gI (xg x), 32, .inl v6)), (a12, .inl (gI (xg x), 32, .inl v7)), (a13, .inr (1, [.ref a39, .ref a14, .ref a16, .int v8])), (a14, .inr (3, [.ref a15])), (a15, .inl (gI (xg x), 32, .inl v9)), (a16, .inr (3, [.ref a17])), (a17, .inl (gI (xg x), 32, .inl v10)), (a18, .inr (4, [.ref a19, .ref a21, .ref a23, .int v11, .int v12])), (a19, .inr (3, [.ref a20])), (a20, .inl (gI (xg x), 32, .inl v13)), (a21, .inr (7, [.ref a22, .int v14])), (a22, .inl (gJ (xg x), 60, .inr (.inl v15))), (a23, .inr (7, [.ref a24, .int v16])), (a24, .inl (gJ (xg x), 60, .inr (.inl v17))), (a25, .inr (3, [.ref a26])), (a26, .inl (gI (xg x), 32, .inl v18)), (a27, .inr (9, [.int v19, .ref a28, .int v20, .ref a29, .ref a30, .ref a31, .ref a32, .ref v30, .ref v33, .ref v36, .int v21, .int v22, .ref a33, .int v23, .ref a34, .ref a35, .ref a36, .ref a37, .int v24])), (a28, .inl (gJ (xg x), 60, .inr (.inl v25))), (a29, .inl (gI (xg x), 27, .inl v26)), (a30, .inl (gI (xg x), 27, .inl v27)), (a31, .inl (gI (xg x), 27, .inl v28)), (a32, .inl (gI (xg x), 27, .inl v29)), (v30, .inl (gJ (xg x), v31, .inr (.inl v32))), (v33, .inl (gI (xg x), v34, .inl v35)), (v36, .inl (gZ (xg x), v37, .inl v38)), (a33, .inl (gI (xg x), 12, .inl v39)), (a34, .inl (gI (xg x), 27, .inl v40)), (a35, .inl (gI (xg x), 27, .inl v41)), (a36, .inl (gI (xg x), 60, .inl v42)), (a37, .inl (gI (xg x), 3, .inl v43))] ++ ZP (xg x) a39 v45) (rest := []) (c_L_removeWord (xl x) (xg x) hst a0 a1 a2 a3 a38 a8 a13 a18 a25 a4 a6 v0 v1 v44 ((((v47 (z4 + 1).toNatClampNeg).toInt64) <<< ((32 : Int32).toInt64 &&& 63)) ||| (((v47 (z4 + 2).toNatClampNeg).toInt64) &&& 4294967295)) h) gL_law_L_removeWord (by rfl) rfl (by decide +kernel) ⟨⟨(Nat.le_of_ble_eq_true rfl), (Nat.le_of_ble_eq_true rfl)⟩, (Nat.le_trans (show k0 + 2 ≤ k0 + rc by omega) hk.1), (Nat.le_trans (show n0 + 12 ≤ n0 + rs by omega) hk.2)⟩ (Nat.le_of_ble_eq_true rfl) (sb_zr (sb_of [0, 1, 2, 3, 41, 4, 5, 6, 7, 8, 9, 10, 11, 12, 13, 14, 15, 16, 17, 18, 19, 20, 21, 22, 23, 24, 25, 26, 27, 28, 29, 30, 31, 32, 33, 34, 35, 36, 37, 38, 39, 40] rfl rfl)) rfl dL_law_308 (fun v X1 hp => ?_)
    obtain ⟨r22, w23, w24, w25, rfl, rfl, h⟩ := hp
    have hk : k0 + 2 + mc26 ≤ (rm_L_law).cells ∧ n0 + 12 + ms27 ≤ (rm_L_law).slots := ⟨Nat.le_trans (show k0 + 2 + mc26 ≤ k0 + rc by omega) hk.1, Nat.le_trans (show n0 + 12 + ms27 ≤ n0 + rs by omega) hk.2⟩
    refine xw_X (sb_rz (sb_of [0, 1, 2, 3, 5, 6, 7, 8, 9, 10, 11, 12, 13, 14, 15, 16, 17, 18, 19, 20, 21, 22, 23, 24, 25, 26, 27, 28, 29, 30, 31, 32, 33, 34, 35, 36, 37, 38, 39, 40, 41, 4] rfl rfl)) (show ww x (W_L_law (xg x) a0 a1 a2 a3 a4 a5 a6 a7 a8 a9 a10 a11 a12 a13 a14 a15 a16 a17 a18 a19 a20 a21 a22 a23 a24 a25 a26 a27 a28 a29 a30 a31 a32 a33 a34 a35 a36 a37 a38 a39 ab w23 w24 v2 v3 v4 v5 v6 v7 v8 v9 v10 v11 v12 v13 v14 v15 v16 v17 v18 v19 v20 v21 v22 v23 v24 v25 v26 v27 v28 v29 v30 v31 v32 v33 v34 v35 v36 v37 v38 v39 v40 v41 v42 v43 w25 v46 v47 ++ ZP (xg x) a39 v45) [(0, .ref ab), (1, .ref a0), (2, .ref a27), (3, .ref a38), (4, .int z4)] (k0 + 2) (n0 + 12) 311 [.int r22] from ?_)
    refine xw_istore hf (pc := 311) dL_law_311 [(5, .int r22), (0, .ref ab), (1, .ref a0), (2, .ref a27), (3, .ref a38), (4, .int z4)] hn (by decide) rfl ?_
    refine xw_aload_n hf (pc := 313) dL_law_313 rfl 3 rfl ?_
    refine xw_aload_n hf (pc := 314) dL_law_314 rfl 1 rfl ?_
    refine xw_iload hf (pc := 315) dL_law_315 5 rfl ?_
    refine xw_iconst hf (pc := 317) dL_law_317 (v := 1) (by decide) ?_
    refine xw_iadd hf (pc := 318) dL_law_318 ?_
    refine xw_sald hf hX dL_law_319 h.1 ?_
    have h := h.2
    refine xw_i2l hf (pc := 320) dL_law_320 ?_
    refine xw_bipush hf (pc := 321) dL_law_321 (v := 32) (by decide) ?_
    refine xw_lshl hf (pc := 323) dL_law_323 ?_
    refine xw_aload_n hf (pc := 324) dL_law_324 rfl 1 rfl ?_
    refine xw_iload hf (pc := 325) dL_law_325 5 rfl ?_
    refine xw_iconst hf (pc := 327) dL_law_327 (v := 2) (by decide) ?_
    refine xw_iadd hf (pc := 328) dL_law_328 ?_
    refine xw_sald hf hX dL_law_329 h.1 ?_
    have h := h.2
    refine xw_i2l hf (pc := 330) dL_law_330 ?_
    refine xw_ldc2 hf (pc := 331) dL_law_331 mw_L_law_0 ?_
    refine xw_land hf (pc := 334) dL_law_334 ?_
    refine xw_lor hf (pc := 335) dL_law_335 ?_
    refine xw_callV hf (pc := 336) (nA := 1) (Xr := [(a0, .inr (8, [.ref a1, .ref a8, .ref a13, .ref a18, .ref a25])), (a1, .inr (2, [.ref a2, .ref a4, .ref a6])), (a2, .inr (7, [.ref a3, .int w23])), (a3, .inl (gJ (xg x), 60, .inr (.inl w24))), (a4, .inr (7, [.ref a5, .int v2])), (a5, .inl (gJ (xg x), 60, .inr (.inl v3))), (a6, .inr (3, [.ref a7])), (a7, .inl (gI (xg x), 32, .inl v4)), (a8, .inr (6, [.ref a9, .ref a11, .ref a12])), (a9, .inr (3, [.ref a10])), (a10, .inl (gI (xg x), 32, .inl v5)), (a11, .inl (gI (xg x), 32, .inl v6)), (a12, .inl (gI (xg x), 32, .inl v7)), (a13, .inr (1, [.ref a39, .ref a14, .ref a16, .int v8])), (a14, .inr (3, [.ref a15])), (a15, .inl (gI (xg x), 32, .inl v9)), (a16, .inr (3, [.ref a17])), (a17, .inl (gI (xg x), 32, .inl v10)), (a18, .inr (4, [.ref a19, .ref a21, .ref a23, .int v11, .int v12])), (a19, .inr (3, [.ref a20])), (a20, .inl (gI (xg x), 32, .inl v13)), (a21, .inr (7, [.ref a22, .int v14])), (a22, .inl (gJ (xg x), 60, .inr (.inl v15))), (a23, .inr (7, [.ref a24, .int v16])), (a24, .inl (gJ (xg x), 60, .inr (.inl v17))), (a25, .inr (3, [.ref a26])), (a26, .inl (gI (xg x), 32, .inl v18)), (a29, .inl (gI (xg x), 27, .inl v26)), (a30, .inl (gI (xg x), 27, .inl v27)), (a31, .inl (gI (xg x), 27, .inl v28)), (a32, .inl (gI (xg x), 27, .inl v29)), (v30, .inl (gJ (xg x), v31, .inr (.inl v32))), (v33, .inl (gI (xg x), v34, .inl v35)), (v36, .inl (gZ (xg x), v37, .inl v38)), (a33, .inl (gI (xg x), 12, .inl v39)), (a34, .inl (gI (xg x), 27, .inl v40)), (a35, .inl (gI (xg x), 27, .inl v41)), (a36, .inl (gI (xg x), 60, .inl v42)), (a37, .inl (gI (xg x), 3, .inl v43)), (a38, .inl (gJ (xg x), 1, .inr (.inl w25)))] ++ ZP (xg x) a39 v45) (rest := []) (T := TX9) (c_X9_removeWord (xl x) (xg x) a27 a28 a29 a30 a31 a32 v30 v33 v36 a33 a34 a35 a36 a37 v19 v20 v21 v22 v23 v24 v25 ((((v47 (z4 + 1).toNatClampNeg).toInt64) <<< ((32 : Int32).toInt64 &&& 63)) ||| (((v47 (z4 + 2).toNatClampNeg).toInt64) &&& 4294967295)) h) gL_law_X9_removeWord (by rfl) rfl rfl (by decide +kernel) ⟨⟨(Nat.le_of_ble_eq_true rfl), (Nat.le_of_ble_eq_true rfl)⟩, (Nat.le_trans (Nat.le_add_right _ _) hk.1), (Nat.le_trans (Nat.le_add_right _ _) hk.2)⟩ (Nat.le_of_ble_eq_true rfl) rfl rfl (sb_zr (sb_of [27, 28, 0, 1, 2, 3, 4, 5, 6, 7, 8, 9, 10, 11, 12, 13, 14, 15, 16, 17, 18, 19, 20, 21, 22, 23, 24, 25, 26, 29, 30, 31, 32, 33, 34, 35, 36, 37, 38, 39, 40, 41] rfl rfl)) rfl dL_law_336 (fun v X1 hp => ?_)
    obtain ⟨r28, w29, w30, w31, rfl, rfl, h⟩ := hp
    refine xw_X (sb_rz (sb_of [2, 3, 4, 5, 6, 7, 8, 9, 10, 11, 12, 13, 14, 15, 16, 17, 18, 19, 20, 21, 22, 23, 24, 25, 26, 27, 28, 0, 1, 29, 30, 31, 32, 33, 34, 35, 36, 37, 38, 39, 40, 41] rfl rfl)) (show ww x (W_L_law (xg x) a0 a1 a2 a3 a4 a5 a6 a7 a8 a9 a10 a11 a12 a13 a14 a15 a16 a17 a18 a19 a20 a21 a22 a23 a24 a25 a26 a27 a28 a29 a30 a31 a32 a33 a34 a35 a36 a37 a38 a39 ab w23 w24 v2 v3 v4 v5 v6 v7 v8 v9 v10 v11 v12 v13 v14 v15 v16 v17 v18 w29 w30 v21 v22 v23 v24 w31 v26 v27 v28 v29 v30 v31 v32 v33 v34 v35 v36 v37 v38 v39 v40 v41 v42 v43 w25 v46 v47 ++ ZP (xg x) a39 v45) [(5, .int r22), (0, .ref ab), (1, .ref a0), (2, .ref a27), (3, .ref a38), (4, .int z4)] (k0 + 2) (n0 + 12) 339 [.int r28] from ?_)
    refine xw_istore hf (pc := 339) dL_law_339 [(6, .int r28), (5, .int r22), (0, .ref ab), (1, .ref a0), (2, .ref a27), (3, .ref a38), (4, .int z4)] hn (by decide) rfl ?_
    refine xw_aload_n hf (pc := 341) dL_law_341 rfl 4 rfl ?_
    refine xw_callV hf (pc := 342) (nA := 0) (Xr := [(a0, .inr (8, [.ref a1, .ref a8, .ref a13, .ref a18, .ref a25])), (a1, .inr (2, [.ref a2, .ref a4, .ref a6])), (a2, .inr (7, [.ref a3, .int w23])), (a3, .inl (gJ (xg x), 60, .inr (.inl w24))), (a4, .inr (7, [.ref a5, .int v2])), (a5, .inl (gJ (xg x), 60, .inr (.inl v3))), (a6, .inr (3, [.ref a7])), (a7, .inl (gI (xg x), 32, .inl v4)), (a8, .inr (6, [.ref a9, .ref a11, .ref a12])), (a9, .inr (3, [.ref a10])), (a10, .inl (gI (xg x), 32, .inl v5)), (a11, .inl (gI (xg x), 32, .inl v6)), (a12, .inl (gI (xg x), 32, .inl v7)), (a13, .inr (1, [.ref a39, .ref a14, .ref a16, .int v8])), (a14, .inr (3, [.ref a15])), (a15, .inl (gI (xg x), 32, .inl v9)), (a16, .inr (3, [.ref a17])), (a17, .inl (gI (xg x), 32, .inl v10)), (a18, .inr (4, [.ref a19, .ref a21, .ref a23, .int v11, .int v12])), (a19, .inr (3, [.ref a20])), (a20, .inl (gI (xg x), 32, .inl v13)), (a21, .inr (7, [.ref a22, .int v14])), (a22, .inl (gJ (xg x), 60, .inr (.inl v15))), (a23, .inr (7, [.ref a24, .int v16])), (a24, .inl (gJ (xg x), 60, .inr (.inl v17))), (a25, .inr (3, [.ref a26])), (a26, .inl (gI (xg x), 32, .inl v18)), (a28, .inl (gJ (xg x), 60, .inr (.inl w31))), (a29, .inl (gI (xg x), 27, .inl v26)), (a30, .inl (gI (xg x), 27, .inl v27)), (a31, .inl (gI (xg x), 27, .inl v28)), (a32, .inl (gI (xg x), 27, .inl v29)), (v30, .inl (gJ (xg x), v31, .inr (.inl v32))), (v33, .inl (gI (xg x), v34, .inl v35)), (v36, .inl (gZ (xg x), v37, .inl v38)), (a33, .inl (gI (xg x), 12, .inl v39)), (a34, .inl (gI (xg x), 27, .inl v40)), (a35, .inl (gI (xg x), 27, .inl v41)), (a36, .inl (gI (xg x), 60, .inl v42)), (a37, .inl (gI (xg x), 3, .inl v43)), (a38, .inl (gJ (xg x), 1, .inr (.inl w25)))] ++ ZP (xg x) a39 v45) (rest := []) (T := TX9) (c_X9_thrown (xl x) (xg x) a27 a28 a29 a30 a31 a32 v30 v33 v36 a33 a34 a35 a36 a37 w29 w30 v21 v22 v23 v24 h) gL_law_X9_thrown (by rfl) rfl rfl (by decide +kernel) ⟨⟨(Nat.le_of_ble_eq_true rfl), (Nat.le_of_ble_eq_true rfl)⟩, (Nat.le_trans (Nat.le_add_right _ _) hk.1), (Nat.le_trans (Nat.le_add_right _ _) hk.2)⟩ (Nat.le_of_ble_eq_true rfl) rfl rfl (sb_zr (sb_of [27, 0, 1, 2, 3, 4, 5, 6, 7, 8, 9, 10, 11, 12, 13, 14, 15, 16, 17, 18, 19, 20, 21, 22, 23, 24, 25, 26, 28, 29, 30, 31, 32, 33, 34, 35, 36, 37, 38, 39, 40, 41] rfl rfl)) rfl dL_law_342 (fun v X1 hp => ?_)
    obtain ⟨r32, rfl, rfl, h⟩ := hp
    refine xw_X (sb_rz (sb_of [1, 2, 3, 4, 5, 6, 7, 8, 9, 10, 11, 12, 13, 14, 15, 16, 17, 18, 19, 20, 21, 22, 23, 24, 25, 26, 27, 0, 28, 29, 30, 31, 32, 33, 34, 35, 36, 37, 38, 39, 40, 41] rfl rfl)) (show ww x (W_L_law (xg x) a0 a1 a2 a3 a4 a5 a6 a7 a8 a9 a10 a11 a12 a13 a14 a15 a16 a17 a18 a19 a20 a21 a22 a23 a24 a25 a26 a27 a28 a29 a30 a31 a32 a33 a34 a35 a36 a37 a38 a39 ab w23 w24 v2 v3 v4 v5 v6 v7 v8 v9 v10 v11 v12 v13 v14 v15 v16 v17 v18 w29 w30 v21 v22 v23 v24 w31 v26 v27 v28 v29 v30 v31 v32 v33 v34 v35 v36 v37 v38 v39 v40 v41 v42 v43 w25 v46 v47 ++ ZP (xg x) a39 v45) [(6, .int r28), (5, .int r22), (0, .ref ab), (1, .ref a0), (2, .ref a27), (3, .ref a38), (4, .int z4)] (k0 + 2) (n0 + 12) 345 [.int r32] from ?_)
    refine xw_iload hf (pc := 345) dL_law_345 1 rfl ?_
    refine xw_icmp_eq hf (pc := 347) dL_law_347 (tgt := 352) rfl ⟨fun c => ?_, fun c => ?_⟩
    · have h := h.1 c
      refine xw_iload hf (pc := 352) dL_law_352 1 rfl ?_
      refine xw_if_ne hf (pc := 354) dL_law_354 (c := r22 = 0) Iff.rfl (tgt := 369) rfl ⟨fun c => ?_, fun c => ?_⟩
      · have h := h.1 c
        refine xw_aload_n hf (pc := 357) dL_law_357 rfl 5 rfl ?_
        refine xw_iconst hf (pc := 358) dL_law_358 (v := 0) (by decide) ?_
        refine xw_lald hf (pc := 359) dL_law_359 41 rfl h.1 ?_
        have h := h.2
        refine xw_iload hf (pc := 360) dL_law_360 0 rfl ?_
        refine xw_i2l hf (pc := 362) dL_law_362 ?_
        refine xw_lcmp hf (pc := 363) dL_law_363 ?_
        refine xw_if_eq hf (pc := 364) dL_law_364 (c := (w25 (0 : Int32).toNatClampNeg) = r28.toInt64) (lc_eq _ _) (tgt := 369) rfl ⟨fun c => ?_, fun c => ?_⟩
        · have h := h.1 c
          refine xw_goto hf (pc := 369) dL_law_369 (tgt := 2681) rfl ?_
          refine xw_L [2, 3, 4, 5, 6] rfl ?_
          exact hK2681 _ _ _ _ hk _ _ _ _ _ _ h
        · have h := h.2 c
          refine xw_iconst hf (pc := 367) dL_law_367 (v := 0) (by decide) ?_
          exact h.elim
      · have h := h.2 c
        refine xw_goto hf (pc := 369) dL_law_369 (tgt := 2681) rfl ?_
        refine xw_L [2, 3, 4, 5, 6] rfl ?_
        exact hK2681 _ _ _ _ hk _ _ _ _ _ _ h
    · have h := h.2 c
      refine xw_iconst hf (pc := 350) dL_law_350 (v := 0) (by decide) ?_
      exact h.elim
set_option maxHeartbeats 4000000 in
set_option maxRecDepth 100000 in
theorem w_L_law_L372 {x : Cx} {mc ms : Nat} (hf : fx x (rm_L_law) RL cL_law wsL_law) (hn : xn x = 8) {k0 n0 rc rs : Nat} (hk : k0 + rc ≤ (rm_L_law).cells ∧ n0 + rs ≤ (rm_L_law).slots) (a0 a1 a2 a3 a4 a5 a6 a7 a8 a9 a10 a11 a12 a13 a14 a15 a16 a17 a18 a19 a20 a21 a22 a23 a24 a25 a26 a27 a28 a29 a30 a31 a32 a33 a34 a35 a36 a37 a38 a39 ab : Nat) (z4 : Int32) (v0 : Int32) (v20 : Int32) (v21 : Int32) (v22 : Int32) (v23 : Int32) (v24 : Int32) (v1 : Nat → Int64) (v2 : Int32) (v3 : Nat → Int64) (v4 : Nat → Int32) (v5 : Nat → Int32) (v6 : Nat → Int32) (v7 : Nat → Int32) (v8 : Int32) (v9 : Nat → Int32) (v10 : Nat → Int32) (v11 : Int32) (v12 : Int32) (v13 : Nat → Int32) (v14 : Int32) (v15 : Nat → Int64) (v16 : Int32) (v17 : Nat → Int64) (v18 : Nat → Int32) (v25 : Nat → Int64) (v26 : Nat → Int32) (v27 : Nat → Int32) (v28 : Nat → Int32) (v29 : Nat → Int32) (v30 : Nat) (v31 : Nat) (v32 : Nat → Int64) (v33 : Nat) (v34 : Nat) (v35 : Nat → Int32) (v36 : Nat) (v37 : Nat) (v38 : Nat → Int32) (v39 : Nat → Int32) (v40 : Nat → Int32) (v41 : Nat → Int32) (v42 : Nat → Int32) (v43 : Nat → Int32) (v44 : Nat → Int64) (v45 : ZL) (v46 : Nat) (v47 : Nat → Int32) {K2681 : Nat → Nat → Int32 → Prop} (hst : (xl x).stackTraces = false) (hX : sX x ab v46 v47)
    (n : Nat) (v19 : Int32) (h : P_L_law_L372 z4 v0 v20 v21 v22 v23 v24 K2681 n rc rs v19)
    (hK2681 : ∀ (k0 n0 rc rs : Nat), k0 + rc ≤ (rm_L_law).cells ∧ n0 + rs ≤ (rm_L_law).slots → ∀ (uv19 : Int32), K2681 rc rs uv19 → ww x (W_L_law (xg x) a0 a1 a2 a3 a4 a5 a6 a7 a8 a9 a10 a11 a12 a13 a14 a15 a16 a17 a18 a19 a20 a21 a22 a23 a24 a25 a26 a27 a28 a29 a30 a31 a32 a33 a34 a35 a36 a37 a38 a39 ab v0 v1 v2 v3 v4 v5 v6 v7 v8 v9 v10 v11 v12 v13 v14 v15 v16 v17 v18 uv19 v20 v21 v22 v23 v24 v25 v26 v27 v28 v29 v30 v31 v32 v33 v34 v35 v36 v37 v38 v39 v40 v41 v42 v43 v44 v46 v47 ++ ZP (xg x) a39 v45) [(0, .ref ab), (1, .ref a0), (2, .ref a27), (3, .ref a38), (4, .int z4)] k0 n0 2681 []) :
    ww x (W_L_law (xg x) a0 a1 a2 a3 a4 a5 a6 a7 a8 a9 a10 a11 a12 a13 a14 a15 a16 a17 a18 a19 a20 a21 a22 a23 a24 a25 a26 a27 a28 a29 a30 a31 a32 a33 a34 a35 a36 a37 a38 a39 ab v0 v1 v2 v3 v4 v5 v6 v7 v8 v9 v10 v11 v12 v13 v14 v15 v16 v17 v18 v19 v20 v21 v22 v23 v24 v25 v26 v27 v28 v29 v30 v31 v32 v33 v34 v35 v36 v37 v38 v39 v40 v41 v42 v43 v44 v46 v47 ++ ZP (xg x) a39 v45) [(0, .ref ab), (1, .ref a0), (2, .ref a27), (3, .ref a38), (4, .int z4)] k0 n0 372 [] := by
  induction n generalizing k0 n0 rc rs v19 with
  | zero => exact h.elim
  | succ n ih =>
    unfold P_L_law_L372 at h
    refine xw_aload_n hf (pc := 372) dL_law_372 rfl 1 rfl ?_
    refine xw_callV hf (pc := 373) (nA := 0) (Xr := [(a3, .inl (gJ (xg x), 60, .inr (.inl v1))), (a4, .inr (7, [.ref a5, .int v2])), (a5, .inl (gJ (xg x), 60, .inr (.inl v3))), (a6, .inr (3, [.ref a7])), (a7, .inl (gI (xg x), 32, .inl v4)), (a8, .inr (6, [.ref a9, .ref a11, .ref a12])), (a9, .inr (3, [.ref a10])), (a10, .inl (gI (xg x), 32, .inl v5)), (a11, .inl (gI (xg x), 32, .inl v6)), (a12, .inl (gI (xg x), 32, .inl v7)), (a13, .inr (1, [.ref a39, .ref a14, .ref a16, .int v8])), (a14, .inr (3, [.ref a15])), (a15, .inl (gI (xg x), 32, .inl v9)), (a16, .inr (3, [.ref a17])), (a17, .inl (gI (xg x), 32, .inl v10)), (a18, .inr (4, [.ref a19, .ref a21, .ref a23, .int v11, .int v12])), (a19, .inr (3, [.ref a20])), (a20, .inl (gI (xg x), 32, .inl v13)), (a21, .inr (7, [.ref a22, .int v14])), (a22, .inl (gJ (xg x), 60, .inr (.inl v15))), (a23, .inr (7, [.ref a24, .int v16])), (a24, .inl (gJ (xg x), 60, .inr (.inl v17))), (a25, .inr (3, [.ref a26])), (a26, .inl (gI (xg x), 32, .inl v18)), (a27, .inr (9, [.int v19, .ref a28, .int v20, .ref a29, .ref a30, .ref a31, .ref a32, .ref v30, .ref v33, .ref v36, .int v21, .int v22, .ref a33, .int v23, .ref a34, .ref a35, .ref a36, .ref a37, .int v24])), (a28, .inl (gJ (xg x), 60, .inr (.inl v25))), (a29, .inl (gI (xg x), 27, .inl v26)), (a30, .inl (gI (xg x), 27, .inl v27)), (a31, .inl (gI (xg x), 27, .inl v28)), (a32, .inl (gI (xg x), 27, .inl v29)), (v30, .inl (gJ (xg x), v31, .inr (.inl v32))), (v33, .inl (gI (xg x), v34, .inl v35)), (v36, .inl (gZ (xg x), v37, .inl v38)), (a33, .inl (gI (xg x), 12, .inl v39)), (a34, .inl (gI (xg x), 27, .inl v40)), (a35, .inl (gI (xg x), 27, .inl v41)), (a36, .inl (gI (xg x), 60, .inl v42)), (a37, .inl (gI (xg x), 3, .inl v43)), (a38, .inl (gJ (xg x), 1, .inr (.inl v44)))] ++ ZP (xg x) a39 v45) (rest := []) (T := TX8) (c_X8_wordCount (xl x) (xg x) a0 a1 a2 a8 a13 a18 a25 a4 a6 a3 v0 h) gL_law_X8_wordCount (by rfl) rfl rfl (by decide +kernel) ⟨⟨(Nat.le_of_ble_eq_true rfl), (Nat.le_of_ble_eq_true rfl)⟩, (Nat.le_trans (Nat.le_add_right _ _) hk.1), (Nat.le_trans (Nat.le_add_right _ _) hk.2)⟩ (Nat.le_of_ble_eq_true rfl) rfl rfl (sb_zr (sb_of [0, 1, 2, 3, 4, 5, 6, 7, 8, 9, 10, 11, 12, 13, 14, 15, 16, 17, 18, 19, 20, 21, 22, 23, 24, 25, 26, 27, 28, 29, 30, 31, 32, 33, 34, 35, 36, 37, 38, 39, 40, 41] rfl rfl)) rfl dL_law_373 (fun v X1 hp => ?_)
    obtain ⟨r43, rfl, rfl, h⟩ := hp
    refine xw_X (sb_rz (sb_of [0, 1, 2, 3, 4, 5, 6, 7, 8, 9, 10, 11, 12, 13, 14, 15, 16, 17, 18, 19, 20, 21, 22, 23, 24, 25, 26, 27, 28, 29, 30, 31, 32, 33, 34, 35, 36, 37, 38, 39, 40, 41] rfl rfl)) (show ww x (W_L_law (xg x) a0 a1 a2 a3 a4 a5 a6 a7 a8 a9 a10 a11 a12 a13 a14 a15 a16 a17 a18 a19 a20 a21 a22 a23 a24 a25 a26 a27 a28 a29 a30 a31 a32 a33 a34 a35 a36 a37 a38 a39 ab v0 v1 v2 v3 v4 v5 v6 v7 v8 v9 v10 v11 v12 v13 v14 v15 v16 v17 v18 v19 v20 v21 v22 v23 v24 v25 v26 v27 v28 v29 v30 v31 v32 v33 v34 v35 v36 v37 v38 v39 v40 v41 v42 v43 v44 v46 v47 ++ ZP (xg x) a39 v45) [(0, .ref ab), (1, .ref a0), (2, .ref a27), (3, .ref a38), (4, .int z4)] k0 n0 376 [.int r43] from ?_)
    refine xw_aload_n hf (pc := 376) dL_law_376 rfl 2 rfl ?_
    refine xw_callV hf (pc := 377) (nA := 0) (Xr := [(a0, .inr (8, [.ref a1, .ref a8, .ref a13, .ref a18, .ref a25])), (a1, .inr (2, [.ref a2, .ref a4, .ref a6])), (a2, .inr (7, [.ref a3, .int v0])), (a3, .inl (gJ (xg x), 60, .inr (.inl v1))), (a4, .inr (7, [.ref a5, .int v2])), (a5, .inl (gJ (xg x), 60, .inr (.inl v3))), (a6, .inr (3, [.ref a7])), (a7, .inl (gI (xg x), 32, .inl v4)), (a8, .inr (6, [.ref a9, .ref a11, .ref a12])), (a9, .inr (3, [.ref a10])), (a10, .inl (gI (xg x), 32, .inl v5)), (a11, .inl (gI (xg x), 32, .inl v6)), (a12, .inl (gI (xg x), 32, .inl v7)), (a13, .inr (1, [.ref a39, .ref a14, .ref a16, .int v8])), (a14, .inr (3, [.ref a15])), (a15, .inl (gI (xg x), 32, .inl v9)), (a16, .inr (3, [.ref a17])), (a17, .inl (gI (xg x), 32, .inl v10)), (a18, .inr (4, [.ref a19, .ref a21, .ref a23, .int v11, .int v12])), (a19, .inr (3, [.ref a20])), (a20, .inl (gI (xg x), 32, .inl v13)), (a21, .inr (7, [.ref a22, .int v14])), (a22, .inl (gJ (xg x), 60, .inr (.inl v15))), (a23, .inr (7, [.ref a24, .int v16])), (a24, .inl (gJ (xg x), 60, .inr (.inl v17))), (a25, .inr (3, [.ref a26])), (a26, .inl (gI (xg x), 32, .inl v18)), (a28, .inl (gJ (xg x), 60, .inr (.inl v25))), (a29, .inl (gI (xg x), 27, .inl v26)), (a30, .inl (gI (xg x), 27, .inl v27)), (a31, .inl (gI (xg x), 27, .inl v28)), (a32, .inl (gI (xg x), 27, .inl v29)), (v30, .inl (gJ (xg x), v31, .inr (.inl v32))), (v33, .inl (gI (xg x), v34, .inl v35)), (v36, .inl (gZ (xg x), v37, .inl v38)), (a33, .inl (gI (xg x), 12, .inl v39)), (a34, .inl (gI (xg x), 27, .inl v40)), (a35, .inl (gI (xg x), 27, .inl v41)), (a36, .inl (gI (xg x), 60, .inl v42)), (a37, .inl (gI (xg x), 3, .inl v43)), (a38, .inl (gJ (xg x), 1, .inr (.inl v44)))] ++ ZP (xg x) a39 v45) (rest := [.int r43]) (T := TX9) (c_X9_wordCount (xl x) (xg x) a27 a28 a29 a30 a31 a32 v30 v33 v36 a33 a34 a35 a36 a37 v19 v20 v21 v22 v23 v24 h) gL_law_X9_wordCount (by rfl) rfl rfl (by decide +kernel) ⟨⟨(Nat.le_of_ble_eq_true rfl), (Nat.le_of_ble_eq_true rfl)⟩, (Nat.le_trans (Nat.le_add_right _ _) hk.1), (Nat.le_trans (Nat.le_add_right _ _) hk.2)⟩ (Nat.le_of_ble_eq_true rfl) rfl rfl (sb_zr (sb_of [27, 0, 1, 2, 3, 4, 5, 6, 7, 8, 9, 10, 11, 12, 13, 14, 15, 16, 17, 18, 19, 20, 21, 22, 23, 24, 25, 26, 28, 29, 30, 31, 32, 33, 34, 35, 36, 37, 38, 39, 40, 41] rfl rfl)) rfl dL_law_377 (fun v X1 hp => ?_)
    obtain ⟨r44, w45, rfl, rfl, h⟩ := hp
    refine xw_X (sb_rz (sb_of [1, 2, 3, 4, 5, 6, 7, 8, 9, 10, 11, 12, 13, 14, 15, 16, 17, 18, 19, 20, 21, 22, 23, 24, 25, 26, 27, 0, 28, 29, 30, 31, 32, 33, 34, 35, 36, 37, 38, 39, 40, 41] rfl rfl)) (show ww x (W_L_law (xg x) a0 a1 a2 a3 a4 a5 a6 a7 a8 a9 a10 a11 a12 a13 a14 a15 a16 a17 a18 a19 a20 a21 a22 a23 a24 a25 a26 a27 a28 a29 a30 a31 a32 a33 a34 a35 a36 a37 a38 a39 ab v0 v1 v2 v3 v4 v5 v6 v7 v8 v9 v10 v11 v12 v13 v14 v15 v16 v17 v18 w45 v20 v21 v22 v23 v24 v25 v26 v27 v28 v29 v30 v31 v32 v33 v34 v35 v36 v37 v38 v39 v40 v41 v42 v43 v44 v46 v47 ++ ZP (xg x) a39 v45) [(0, .ref ab), (1, .ref a0), (2, .ref a27), (3, .ref a38), (4, .int z4)] k0 n0 380 [.int r44, .int r43] from ?_)
    refine xw_icmp_eq hf (pc := 380) dL_law_380 (tgt := 2681) rfl ⟨fun c => ?_, fun c => ?_⟩
    · have h := h.1 c
      refine xw_L [0, 1, 2, 3, 4] rfl ?_
      exact hK2681 _ _ _ _ hk _ h
    · have h := h.2 c
      refine xw_iconst hf (pc := 383) dL_law_383 (v := 0) (by decide) ?_
      exact h.elim
set_option maxHeartbeats 4000000 in
set_option maxRecDepth 100000 in
theorem w_L_law_L385 {x : Cx} {mc ms : Nat} (hf : fx x (rm_L_law) RL cL_law wsL_law) (hn : xn x = 8) {k0 n0 rc rs : Nat} (hk : k0 + rc ≤ (rm_L_law).cells ∧ n0 + rs ≤ (rm_L_law).slots) (a0 a1 a2 a3 a4 a5 a6 a7 a8 a9 a10 a11 a12 a13 a14 a15 a16 a17 a18 a19 a20 a21 a22 a23 a24 a25 a26 a27 a28 a29 a30 a31 a32 a33 a34 a35 a36 a37 a38 a39 ab : Nat) (z4 : Int32) (v0 : Int32) (v1 : Nat → Int64) (v20 : Int32) (v21 : Int32) (v22 : Int32) (v23 : Int32) (v24 : Int32) (v25 : Nat → Int64) (v40 : Nat → Int32) (v46 : Nat) (v47 : Nat → Int32) (v2 : Int32) (v3 : Nat → Int64) (v4 : Nat → Int32) (v5 : Nat → Int32) (v6 : Nat → Int32) (v7 : Nat → Int32) (v8 : Int32) (v9 : Nat → Int32) (v10 : Nat → Int32) (v11 : Int32) (v12 : Int32) (v13 : Nat → Int32) (v14 : Int32) (v15 : Nat → Int64) (v16 : Int32) (v17 : Nat → Int64) (v18 : Nat → Int32) (v26 : Nat → Int32) (v27 : Nat → Int32) (v28 : Nat → Int32) (v29 : Nat → Int32) (v30 : Nat) (v31 : Nat) (v32 : Nat → Int64) (v33 : Nat) (v34 : Nat) (v35 : Nat → Int32) (v36 : Nat) (v37 : Nat) (v38 : Nat → Int32) (v39 : Nat → Int32) (v41 : Nat → Int32) (v42 : Nat → Int32) (v43 : Nat → Int32) (v45 : ZL) {K2681 : Nat → Nat → Int32 → (Nat → Int64) → Prop} (hst : (xl x).stackTraces = false) (hX : sX x ab v46 v47)
    (n : Nat) (v19 : Int32) (v44 : Nat → Int64) (h : P_L_law_L385 z4 v0 v1 v20 v21 v22 v23 v24 v25 v40 v46 v47 K2681 n rc rs v19 v44)
    (hK2681 : ∀ (k0 n0 rc rs : Nat), k0 + rc ≤ (rm_L_law).cells ∧ n0 + rs ≤ (rm_L_law).slots → ∀ (uv19 : Int32), ∀ (uv44 : Nat → Int64), K2681 rc rs uv19 uv44 → ww x (W_L_law (xg x) a0 a1 a2 a3 a4 a5 a6 a7 a8 a9 a10 a11 a12 a13 a14 a15 a16 a17 a18 a19 a20 a21 a22 a23 a24 a25 a26 a27 a28 a29 a30 a31 a32 a33 a34 a35 a36 a37 a38 a39 ab v0 v1 v2 v3 v4 v5 v6 v7 v8 v9 v10 v11 v12 v13 v14 v15 v16 v17 v18 uv19 v20 v21 v22 v23 v24 v25 v26 v27 v28 v29 v30 v31 v32 v33 v34 v35 v36 v37 v38 v39 v40 v41 v42 v43 uv44 v46 v47 ++ ZP (xg x) a39 v45) [(0, .ref ab), (1, .ref a0), (2, .ref a27), (3, .ref a38), (4, .int z4)] k0 n0 2681 []) :
    ww x (W_L_law (xg x) a0 a1 a2 a3 a4 a5 a6 a7 a8 a9 a10 a11 a12 a13 a14 a15 a16 a17 a18 a19 a20 a21 a22 a23 a24 a25 a26 a27 a28 a29 a30 a31 a32 a33 a34 a35 a36 a37 a38 a39 ab v0 v1 v2 v3 v4 v5 v6 v7 v8 v9 v10 v11 v12 v13 v14 v15 v16 v17 v18 v19 v20 v21 v22 v23 v24 v25 v26 v27 v28 v29 v30 v31 v32 v33 v34 v35 v36 v37 v38 v39 v40 v41 v42 v43 v44 v46 v47 ++ ZP (xg x) a39 v45) [(0, .ref ab), (1, .ref a0), (2, .ref a27), (3, .ref a38), (4, .int z4)] k0 n0 385 [] := by
  induction n generalizing k0 n0 rc rs v19 v44 with
  | zero => exact h.elim
  | succ n ih =>
    unfold P_L_law_L385 at h
    refine xw_aload_n hf (pc := 385) dL_law_385 rfl 1 rfl ?_
    refine xw_aload_n hf (pc := 386) dL_law_386 rfl 0 rfl ?_
    refine xw_iload hf (pc := 387) dL_law_387 4 rfl ?_
    refine xw_iconst hf (pc := 389) dL_law_389 (v := 1) (by decide) ?_
    refine xw_iadd hf (pc := 390) dL_law_390 ?_
    refine xw_sald hf hX dL_law_391 h.1 ?_
    have h := h.2
    refine xw_aload_n hf (pc := 392) dL_law_392 rfl 3 rfl ?_
    obtain ⟨mc53, ms54, ⟨hb1, hb2⟩, h⟩ := h
    refine xw_callSW hf (pc := 393) (nA := 3) (Xr := [(a4, .inr (7, [.ref a5, .int v2])), (a5, .inl (gJ (xg x), 60, .inr (.inl v3))), (a6, .inr (3, [.ref a7])), (a7, .inl (gI (xg x), 32, .inl v4)), (a8, .inr (6, [.ref a9, .ref a11, .ref a12])), (a9, .inr (3, [.ref a10])), (a10, .inl (gI (xg x), 32, .inl v5)), (a11, .inl (gI (xg x), 32, .inl v6)), (a12, .inl (gI (xg x), 32, .inl v7)), (a13, .inr (1, [.ref a39, .ref a14, .ref a16, .int v8])), (a14, .inr (3, [.ref a15])), (a15, .inl (gI (xg x), 32, .inl v9)), (a16, .inr (3, [.ref a17])), (a17, .inl (gI (xg x), 32, .inl v10)), (a18, .inr (4, [.ref a19, .ref a21, .ref a23, .int v11, .int v12])), (a19, .inr (3, [.ref a20])), (a20, .inl (gI (xg x), 32, .inl v13)), (a21, .inr (7, [.ref a22, .int v14])), (a22, .inl (gJ (xg x), 60, .inr (.inl v15))), (a23, .inr (7, [.ref a24, .int v16])), (a24, .inl (gJ (xg x), 60, .inr (.inl v17))), (a25, .inr (3, [.ref a26])), (a26, .inl (gI (xg x), 32, .inl v18)), (a27, .inr (9, [.int v19, .ref a28, .int v20, .ref a29, .ref a30, .ref a31, .ref a32, .ref v30, .ref v33, .ref v36, .int v21, .int v22, .ref a33, .int v23, .ref a34, .ref a35, .ref a36, .ref a37, .int v24])), (a28, .inl (gJ (xg x), 60, .inr (.inl v25))), (a29, .inl (gI (xg x), 27, .inl v26)), (a30, .inl (gI (xg x), 27, .inl v27)), (a31, .inl (gI (xg x), 27, .inl v28)), (a32, .inl (gI (xg x), 27, .inl v29)), (v30, .inl (gJ (xg x), v31, .inr (.inl v32))), (v33, .inl (gI (xg x), v34, .inl v35)), (v36, .inl (gZ (xg x), v37, .inl v38)), (a33, .inl (gI (xg x), 12, .inl v39)), (a34, .inl (gI (xg x), 27, .inl v40)), (a35, .inl (gI (xg x), 27, .inl v41)), (a36, .inl (gI (xg x), 60, .inl v42)), (a37, .inl (gI (xg x), 3, .inl v43))] ++ ZP (xg x) a39 v45) (rest := []) (c_L_wordAt (xl x) (xg x) hst a0 a1 a2 a3 a38 a8 a13 a18 a25 a4 a6 v0 v1 v44 (v47 (z4 + 1).toNatClampNeg) h) gL_law_L_wordAt (by rfl) rfl (by decide +kernel) ⟨⟨(Nat.le_of_ble_eq_true rfl), (Nat.le_of_ble_eq_true rfl)⟩, (Nat.le_trans (show k0 + 1 ≤ k0 + rc by omega) hk.1), (Nat.le_trans (show n0 + 6 ≤ n0 + rs by omega) hk.2)⟩ (Nat.le_of_ble_eq_true rfl) (sb_zr (sb_of [0, 1, 2, 3, 41, 4, 5, 6, 7, 8, 9, 10, 11, 12, 13, 14, 15, 16, 17, 18, 19, 20, 21, 22, 23, 24, 25, 26, 27, 28, 29, 30, 31, 32, 33, 34, 35, 36, 37, 38, 39, 40] rfl rfl)) rfl dL_law_393 (fun v X1 hp => ?_)
    obtain ⟨r51, w52, rfl, rfl, h⟩ := hp
    have hk : k0 + 1 + mc53 ≤ (rm_L_law).cells ∧ n0 + 6 + ms54 ≤ (rm_L_law).slots := ⟨Nat.le_trans (show k0 + 1 + mc53 ≤ k0 + rc by omega) hk.1, Nat.le_trans (show n0 + 6 + ms54 ≤ n0 + rs by omega) hk.2⟩
    refine xw_X (sb_rz (sb_of [0, 1, 2, 3, 5, 6, 7, 8, 9, 10, 11, 12, 13, 14, 15, 16, 17, 18, 19, 20, 21, 22, 23, 24, 25, 26, 27, 28, 29, 30, 31, 32, 33, 34, 35, 36, 37, 38, 39, 40, 41, 4] rfl rfl)) (show ww x (W_L_law (xg x) a0 a1 a2 a3 a4 a5 a6 a7 a8 a9 a10 a11 a12 a13 a14 a15 a16 a17 a18 a19 a20 a21 a22 a23 a24 a25 a26 a27 a28 a29 a30 a31 a32 a33 a34 a35 a36 a37 a38 a39 ab v0 v1 v2 v3 v4 v5 v6 v7 v8 v9 v10 v11 v12 v13 v14 v15 v16 v17 v18 v19 v20 v21 v22 v23 v24 v25 v26 v27 v28 v29 v30 v31 v32 v33 v34 v35 v36 v37 v38 v39 v40 v41 v42 v43 w52 v46 v47 ++ ZP (xg x) a39 v45) [(0, .ref ab), (1, .ref a0), (2, .ref a27), (3, .ref a38), (4, .int z4)] (k0 + 1) (n0 + 6) 396 [.int r51] from ?_)
    refine xw_istore hf (pc := 396) dL_law_396 [(5, .int r51), (0, .ref ab), (1, .ref a0), (2, .ref a27), (3, .ref a38), (4, .int z4)] hn (by decide) rfl ?_
    refine xw_aload_n hf (pc := 398) dL_law_398 rfl 3 rfl ?_
    refine xw_aload_n hf (pc := 399) dL_law_399 rfl 1 rfl ?_
    refine xw_iload hf (pc := 400) dL_law_400 5 rfl ?_
    refine xw_iconst hf (pc := 402) dL_law_402 (v := 1) (by decide) ?_
    refine xw_iadd hf (pc := 403) dL_law_403 ?_
    refine xw_sald hf hX dL_law_404 h.1 ?_
    have h := h.2
    refine xw_callV hf (pc := 405) (nA := 1) (Xr := [(a0, .inr (8, [.ref a1, .ref a8, .ref a13, .ref a18, .ref a25])), (a1, .inr (2, [.ref a2, .ref a4, .ref a6])), (a2, .inr (7, [.ref a3, .int v0])), (a3, .inl (gJ (xg x), 60, .inr (.inl v1))), (a4, .inr (7, [.ref a5, .int v2])), (a5, .inl (gJ (xg x), 60, .inr (.inl v3))), (a6, .inr (3, [.ref a7])), (a7, .inl (gI (xg x), 32, .inl v4)), (a8, .inr (6, [.ref a9, .ref a11, .ref a12])), (a9, .inr (3, [.ref a10])), (a10, .inl (gI (xg x), 32, .inl v5)), (a11, .inl (gI (xg x), 32, .inl v6)), (a12, .inl (gI (xg x), 32, .inl v7)), (a13, .inr (1, [.ref a39, .ref a14, .ref a16, .int v8])), (a14, .inr (3, [.ref a15])), (a15, .inl (gI (xg x), 32, .inl v9)), (a16, .inr (3, [.ref a17])), (a17, .inl (gI (xg x), 32, .inl v10)), (a18, .inr (4, [.ref a19, .ref a21, .ref a23, .int v11, .int v12])), (a19, .inr (3, [.ref a20])), (a20, .inl (gI (xg x), 32, .inl v13)), (a21, .inr (7, [.ref a22, .int v14])), (a22, .inl (gJ (xg x), 60, .inr (.inl v15))), (a23, .inr (7, [.ref a24, .int v16])), (a24, .inl (gJ (xg x), 60, .inr (.inl v17))), (a25, .inr (3, [.ref a26])), (a26, .inl (gI (xg x), 32, .inl v18)), (a29, .inl (gI (xg x), 27, .inl v26)), (a30, .inl (gI (xg x), 27, .inl v27)), (a31, .inl (gI (xg x), 27, .inl v28)), (a32, .inl (gI (xg x), 27, .inl v29)), (v30, .inl (gJ (xg x), v31, .inr (.inl v32))), (v33, .inl (gI (xg x), v34, .inl v35)), (v36, .inl (gZ (xg x), v37, .inl v38)), (a33, .inl (gI (xg x), 12, .inl v39)), (a35, .inl (gI (xg x), 27, .inl v41)), (a36, .inl (gI (xg x), 60, .inl v42)), (a37, .inl (gI (xg x), 3, .inl v43)), (a38, .inl (gJ (xg x), 1, .inr (.inl w52)))] ++ ZP (xg x) a39 v45) (rest := []) (T := TX9) (c_X9_wordAt (xl x) (xg x) a27 a28 a34 a29 a30 a31 a32 v30 v33 v36 a33 a35 a36 a37 v19 v20 v21 v22 v23 v24 v25 v40 (v47 (z4 + 1).toNatClampNeg) h) gL_law_X9_wordAt (by rfl) rfl rfl (by decide +kernel) ⟨⟨(Nat.le_of_ble_eq_true rfl), (Nat.le_of_ble_eq_true rfl)⟩, (Nat.le_trans (Nat.le_add_right _ _) hk.1), (Nat.le_trans (Nat.le_add_right _ _) hk.2)⟩ (Nat.le_of_ble_eq_true rfl) rfl rfl (sb_zr (sb_of [27, 28, 37, 0, 1, 2, 3, 4, 5, 6, 7, 8, 9, 10, 11, 12, 13, 14, 15, 16, 17, 18, 19, 20, 21, 22, 23, 24, 25, 26, 29, 30, 31, 32, 33, 34, 35, 36, 38, 39, 40, 41] rfl rfl)) rfl dL_law_405 (fun v X1 hp => ?_)
    obtain ⟨r55, w56, rfl, rfl, h⟩ := hp
    refine xw_X (sb_rz (sb_of [3, 4, 5, 6, 7, 8, 9, 10, 11, 12, 13, 14, 15, 16, 17, 18, 19, 20, 21, 22, 23, 24, 25, 26, 27, 28, 29, 0, 1, 30, 31, 32, 33, 34, 35, 36, 37, 2, 38, 39, 40, 41] rfl rfl)) (show ww x (W_L_law (xg x) a0 a1 a2 a3 a4 a5 a6 a7 a8 a9 a10 a11 a12 a13 a14 a15 a16 a17 a18 a19 a20 a21 a22 a23 a24 a25 a26 a27 a28 a29 a30 a31 a32 a33 a34 a35 a36 a37 a38 a39 ab v0 v1 v2 v3 v4 v5 v6 v7 v8 v9 v10 v11 v12 v13 v14 v15 v16 v17 v18 w56 v20 v21 v22 v23 v24 v25 v26 v27 v28 v29 v30 v31 v32 v33 v34 v35 v36 v37 v38 v39 v40 v41 v42 v43 w52 v46 v47 ++ ZP (xg x) a39 v45) [(5, .int r51), (0, .ref ab), (1, .ref a0), (2, .ref a27), (3, .ref a38), (4, .int z4)] (k0 + 1) (n0 + 6) 408 [.long r55] from ?_)
    refine xw_lstore hf (pc := 408) dL_law_408 [(6, .long r55), (5, .int r51), (0, .ref ab), (1, .ref a0), (2, .ref a27), (3, .ref a38), (4, .int z4)] hn (by decide) rfl ?_
    refine xw_aload_n hf (pc := 410) dL_law_410 rfl 4 rfl ?_
    refine xw_callV hf (pc := 411) (nA := 0) (Xr := [(a0, .inr (8, [.ref a1, .ref a8, .ref a13, .ref a18, .ref a25])), (a1, .inr (2, [.ref a2, .ref a4, .ref a6])), (a2, .inr (7, [.ref a3, .int v0])), (a3, .inl (gJ (xg x), 60, .inr (.inl v1))), (a4, .inr (7, [.ref a5, .int v2])), (a5, .inl (gJ (xg x), 60, .inr (.inl v3))), (a6, .inr (3, [.ref a7])), (a7, .inl (gI (xg x), 32, .inl v4)), (a8, .inr (6, [.ref a9, .ref a11, .ref a12])), (a9, .inr (3, [.ref a10])), (a10, .inl (gI (xg x), 32, .inl v5)), (a11, .inl (gI (xg x), 32, .inl v6)), (a12, .inl (gI (xg x), 32, .inl v7)), (a13, .inr (1, [.ref a39, .ref a14, .ref a16, .int v8])), (a14, .inr (3, [.ref a15])), (a15, .inl (gI (xg x), 32, .inl v9)), (a16, .inr (3, [.ref a17])), (a17, .inl (gI (xg x), 32, .inl v10)), (a18, .inr (4, [.ref a19, .ref a21, .ref a23, .int v11, .int v12])), (a19, .inr (3, [.ref a20])), (a20, .inl (gI (xg x), 32, .inl v13)), (a21, .inr (7, [.ref a22, .int v14])), (a22, .inl (gJ (xg x), 60, .inr (.inl v15))), (a23, .inr (7, [.ref a24, .int v16])), (a24, .inl (gJ (xg x), 60, .inr (.inl v17))), (a25, .inr (3, [.ref a26])), (a26, .inl (gI (xg x), 32, .inl v18)), (a28, .inl (gJ (xg x), 60, .inr (.inl v25))), (a29, .inl (gI (xg x), 27, .inl v26)), (a30, .inl (gI (xg x), 27, .inl v27)), (a31, .inl (gI (xg x), 27, .inl v28)), (a32, .inl (gI (xg x), 27, .inl v29)), (v30, .inl (gJ (xg x), v31, .inr (.inl v32))), (v33, .inl (gI (xg x), v34, .inl v35)), (v36, .inl (gZ (xg x), v37, .inl v38)), (a33, .inl (gI (xg x), 12, .inl v39)), (a34, .inl (gI (xg x), 27, .inl v40)), (a35, .inl (gI (xg x), 27, .inl v41)), (a36, .inl (gI (xg x), 60, .inl v42)), (a37, .inl (gI (xg x), 3, .inl v43)), (a38, .inl (gJ (xg x), 1, .inr (.inl w52)))] ++ ZP (xg x) a39 v45) (rest := []) (T := TX9) (c_X9_thrown (xl x) (xg x) a27 a28 a29 a30 a31 a32 v30 v33 v36 a33 a34 a35 a36 a37 w56 v20 v21 v22 v23 v24 h) gL_law_X9_thrown (by rfl) rfl rfl (by decide +kernel) ⟨⟨(Nat.le_of_ble_eq_true rfl), (Nat.le_of_ble_eq_true rfl)⟩, (Nat.le_trans (Nat.le_add_right _ _) hk.1), (Nat.le_trans (Nat.le_add_right _ _) hk.2)⟩ (Nat.le_of_ble_eq_true rfl) rfl rfl (sb_zr (sb_of [27, 0, 1, 2, 3, 4, 5, 6, 7, 8, 9, 10, 11, 12, 13, 14, 15, 16, 17, 18, 19, 20, 21, 22, 23, 24, 25, 26, 28, 29, 30, 31, 32, 33, 34, 35, 36, 37, 38, 39, 40, 41] rfl rfl)) rfl dL_law_411 (fun v X1 hp => ?_)
    obtain ⟨r57, rfl, rfl, h⟩ := hp
    refine xw_X (sb_rz (sb_of [1, 2, 3, 4, 5, 6, 7, 8, 9, 10, 11, 12, 13, 14, 15, 16, 17, 18, 19, 20, 21, 22, 23, 24, 25, 26, 27, 0, 28, 29, 30, 31, 32, 33, 34, 35, 36, 37, 38, 39, 40, 41] rfl rfl)) (show ww x (W_L_law (xg x) a0 a1 a2 a3 a4 a5 a6 a7 a8 a9 a10 a11 a12 a13 a14 a15 a16 a17 a18 a19 a20 a21 a22 a23 a24 a25 a26 a27 a28 a29 a30 a31 a32 a33 a34 a35 a36 a37 a38 a39 ab v0 v1 v2 v3 v4 v5 v6 v7 v8 v9 v10 v11 v12 v13 v14 v15 v16 v17 v18 w56 v20 v21 v22 v23 v24 v25 v26 v27 v28 v29 v30 v31 v32 v33 v34 v35 v36 v37 v38 v39 v40 v41 v42 v43 w52 v46 v47 ++ ZP (xg x) a39 v45) [(6, .long r55), (5, .int r51), (0, .ref ab), (1, .ref a0), (2, .ref a27), (3, .ref a38), (4, .int z4)] (k0 + 1) (n0 + 6) 414 [.int r57] from ?_)
    refine xw_iload hf (pc := 414) dL_law_414 1 rfl ?_
    refine xw_icmp_eq hf (pc := 416) dL_law_416 (tgt := 421) rfl ⟨fun c => ?_, fun c => ?_⟩
    · have h := h.1 c
      refine xw_iload hf (pc := 421) dL_law_421 1 rfl ?_
      refine xw_if_ne hf (pc := 423) dL_law_423 (c := r51 = 0) Iff.rfl (tgt := 437) rfl ⟨fun c => ?_, fun c => ?_⟩
      · have h := h.1 c
        refine xw_aload_n hf (pc := 426) dL_law_426 rfl 5 rfl ?_
        refine xw_iconst hf (pc := 427) dL_law_427 (v := 0) (by decide) ?_
        refine xw_lald hf (pc := 428) dL_law_428 41 rfl h.1 ?_
        have h := h.2
        refine xw_lload hf (pc := 429) dL_law_429 0 rfl ?_
        refine xw_lcmp hf (pc := 431) dL_law_431 ?_
        refine xw_if_eq hf (pc := 432) dL_law_432 (c := (w52 (0 : Int32).toNatClampNeg) = r55) (lc_eq _ _) (tgt := 437) rfl ⟨fun c => ?_, fun c => ?_⟩
        · have h := h.1 c
          refine xw_goto hf (pc := 437) dL_law_437 (tgt := 2681) rfl ?_
          refine xw_L [2, 3, 4, 5, 6] rfl ?_
          exact hK2681 _ _ _ _ hk _ _ h
        · have h := h.2 c
          refine xw_iconst hf (pc := 435) dL_law_435 (v := 0) (by decide) ?_
          exact h.elim
      · have h := h.2 c
        refine xw_goto hf (pc := 437) dL_law_437 (tgt := 2681) rfl ?_
        refine xw_L [2, 3, 4, 5, 6] rfl ?_
        exact hK2681 _ _ _ _ hk _ _ h
    · have h := h.2 c
      refine xw_iconst hf (pc := 419) dL_law_419 (v := 0) (by decide) ?_
      exact h.elim
set_option maxHeartbeats 4000000 in
set_option maxRecDepth 100000 in
theorem w_L_law_L440 {x : Cx} {mc ms : Nat} (hf : fx x (rm_L_law) RL cL_law wsL_law) (hn : xn x = 8) {k0 n0 rc rs : Nat} (hk : k0 + rc ≤ (rm_L_law).cells ∧ n0 + rs ≤ (rm_L_law).slots) (a0 a1 a2 a3 a4 a5 a6 a7 a8 a9 a10 a11 a12 a13 a14 a15 a16 a17 a18 a19 a20 a21 a22 a23 a24 a25 a26 a27 a28 a29 a30 a31 a32 a33 a34 a35 a36 a37 a38 a39 ab : Nat) (z4 : Int32) (v0 : Int32) (v1 : Nat → Int64) (v20 : Int32) (v21 : Int32) (v22 : Int32) (v23 : Int32) (v24 : Int32) (v25 : Nat → Int64) (v46 : Nat) (v47 : Nat → Int32) (v2 : Int32) (v3 : Nat → Int64) (v4 : Nat → Int32) (v5 : Nat → Int32) (v6 : Nat → Int32) (v7 : Nat → Int32) (v8 : Int32) (v9 : Nat → Int32) (v10 : Nat → Int32) (v11 : Int32) (v12 : Int32) (v13 : Nat → Int32) (v14 : Int32) (v15 : Nat → Int64) (v16 : Int32) (v17 : Nat → Int64) (v18 : Nat → Int32) (v26 : Nat → Int32) (v27 : Nat → Int32) (v28 : Nat → Int32) (v29 : Nat → Int32) (v30 : Nat) (v31 : Nat) (v32 : Nat → Int64) (v33 : Nat) (v34 : Nat) (v35 : Nat → Int32) (v36 : Nat) (v37 : Nat) (v38 : Nat → Int32) (v39 : Nat → Int32) (v40 : Nat → Int32) (v41 : Nat → Int32) (v42 : Nat → Int32) (v43 : Nat → Int32) (v45 : ZL) {K2681 : Nat → Nat → Int32 → (Nat → Int64) → Prop} (hst : (xl x).stackTraces = false) (hX : sX x ab v46 v47)
    (n : Nat) (v19 : Int32) (v44 : Nat → Int64) (h : P_L_law_L440 z4 v0 v1 v20 v21 v22 v23 v24 v25 v46 v47 K2681 n rc rs v19 v44)
    (hK2681 : ∀ (k0 n0 rc rs : Nat), k0 + rc ≤ (rm_L_law).cells ∧ n0 + rs ≤ (rm_L_law).slots → ∀ (uv19 : Int32), ∀ (uv44 : Nat → Int64), K2681 rc rs uv19 uv44 → ww x (W_L_law (xg x) a0 a1 a2 a3 a4 a5 a6 a7 a8 a9 a10 a11 a12 a13 a14 a15 a16 a17 a18 a19 a20 a21 a22 a23 a24 a25 a26 a27 a28 a29 a30 a31 a32 a33 a34 a35 a36 a37 a38 a39 ab v0 v1 v2 v3 v4 v5 v6 v7 v8 v9 v10 v11 v12 v13 v14 v15 v16 v17 v18 uv19 v20 v21 v22 v23 v24 v25 v26 v27 v28 v29 v30 v31 v32 v33 v34 v35 v36 v37 v38 v39 v40 v41 v42 v43 uv44 v46 v47 ++ ZP (xg x) a39 v45) [(0, .ref ab), (1, .ref a0), (2, .ref a27), (3, .ref a38), (4, .int z4)] k0 n0 2681 []) :
    ww x (W_L_law (xg x) a0 a1 a2 a3 a4 a5 a6 a7 a8 a9 a10 a11 a12 a13 a14 a15 a16 a17 a18 a19 a20 a21 a22 a23 a24 a25 a26 a27 a28 a29 a30 a31 a32 a33 a34 a35 a36 a37 a38 a39 ab v0 v1 v2 v3 v4 v5 v6 v7 v8 v9 v10 v11 v12 v13 v14 v15 v16 v17 v18 v19 v20 v21 v22 v23 v24 v25 v26 v27 v28 v29 v30 v31 v32 v33 v34 v35 v36 v37 v38 v39 v40 v41 v42 v43 v44 v46 v47 ++ ZP (xg x) a39 v45) [(0, .ref ab), (1, .ref a0), (2, .ref a27), (3, .ref a38), (4, .int z4)] k0 n0 440 [] := by
  induction n generalizing k0 n0 rc rs v19 v44 with
  | zero => exact h.elim
  | succ n ih =>
    unfold P_L_law_L440 at h
    refine xw_aload_n hf (pc := 440) dL_law_440 rfl 1 rfl ?_
    refine xw_aload_n hf (pc := 441) dL_law_441 rfl 0 rfl ?_
    refine xw_iload hf (pc := 442) dL_law_442 4 rfl ?_
    refine xw_iconst hf (pc := 444) dL_law_444 (v := 1) (by decide) ?_
    refine xw_iadd hf (pc := 445) dL_law_445 ?_
    refine xw_sald hf hX dL_law_446 h.1 ?_
    have h := h.2
    refine xw_i2l hf (pc := 447) dL_law_447 ?_
    refine xw_bipush hf (pc := 448) dL_law_448 (v := 32) (by decide) ?_
    refine xw_lshl hf (pc := 450) dL_law_450 ?_
    refine xw_aload_n hf (pc := 451) dL_law_451 rfl 0 rfl ?_
    refine xw_iload hf (pc := 452) dL_law_452 4 rfl ?_
    refine xw_iconst hf (pc := 454) dL_law_454 (v := 2) (by decide) ?_
    refine xw_iadd hf (pc := 455) dL_law_455 ?_
    refine xw_sald hf hX dL_law_456 h.1 ?_
    have h := h.2
    refine xw_i2l hf (pc := 457) dL_law_457 ?_
    refine xw_ldc2 hf (pc := 458) dL_law_458 mw_L_law_0 ?_
    refine xw_land hf (pc := 461) dL_law_461 ?_
    refine xw_lor hf (pc := 462) dL_law_462 ?_
    refine xw_aload_n hf (pc := 463) dL_law_463 rfl 3 rfl ?_
    obtain ⟨mc66, ms67, ⟨hb1, hb2⟩, h⟩ := h
    refine xw_callSW hf (pc := 464) (nA := 3) (Xr := [(a4, .inr (7, [.ref a5, .int v2])), (a5, .inl (gJ (xg x), 60, .inr (.inl v3))), (a6, .inr (3, [.ref a7])), (a7, .inl (gI (xg x), 32, .inl v4)), (a8, .inr (6, [.ref a9, .ref a11, .ref a12])), (a9, .inr (3, [.ref a10])), (a10, .inl (gI (xg x), 32, .inl v5)), (a11, .inl (gI (xg x), 32, .inl v6)), (a12, .inl (gI (xg x), 32, .inl v7)), (a13, .inr (1, [.ref a39, .ref a14, .ref a16, .int v8])), (a14, .inr (3, [.ref a15])), (a15, .inl (gI (xg x), 32, .inl v9)), (a16, .inr (3, [.ref a17])), (a17, .inl (gI (xg x), 32, .inl v10)), (a18, .inr (4, [.ref a19, .ref a21, .ref a23, .int v11, .int v12])), (a19, .inr (3, [.ref a20])), (a20, .inl (gI (xg x), 32, .inl v13)), (a21, .inr (7, [.ref a22, .int v14])), (a22, .inl (gJ (xg x), 60, .inr (.inl v15))), (a23, .inr (7, [.ref a24, .int v16])), (a24, .inl (gJ (xg x), 60, .inr (.inl v17))), (a25, .inr (3, [.ref a26])), (a26, .inl (gI (xg x), 32, .inl v18)), (a27, .inr (9, [.int v19, .ref a28, .int v20, .ref a29, .ref a30, .ref a31, .ref a32, .ref v30, .ref v33, .ref v36, .int v21, .int v22, .ref a33, .int v23, .ref a34, .ref a35, .ref a36, .ref a37, .int v24])), (a28, .inl (gJ (xg x), 60, .inr (.inl v25))), (a29, .inl (gI (xg x), 27, .inl v26)), (a30, .inl (gI (xg x), 27, .inl v27)), (a31, .inl (gI (xg x), 27, .inl v28)), (a32, .inl (gI (xg x), 27, .inl v29)), (v30, .inl (gJ (xg x), v31, .inr (.inl v32))), (v33, .inl (gI (xg x), v34, .inl v35)), (v36, .inl (gZ (xg x), v37, .inl v38)), (a33, .inl (gI (xg x), 12, .inl v39)), (a34, .inl (gI (xg x), 27, .inl v40)), (a35, .inl (gI (xg x), 27, .inl v41)), (a36, .inl (gI (xg x), 60, .inl v42)), (a37, .inl (gI (xg x), 3, .inl v43))] ++ ZP (xg x) a39 v45) (rest := []) (c_L_hasWord (xl x) (xg x) hst a0 a1 a2 a3 a38 a8 a13 a18 a25 a4 a6 v0 v1 v44 ((((v47 (z4 + 1).toNatClampNeg).toInt64) <<< ((32 : Int32).toInt64 &&& 63)) ||| (((v47 (z4 + 2).toNatClampNeg).toInt64) &&& 4294967295)) h) gL_law_L_hasWord (by rfl) rfl (by decide +kernel) ⟨⟨(Nat.le_of_ble_eq_true rfl), (Nat.le_of_ble_eq_true rfl)⟩, (Nat.le_trans (show k0 + 1 ≤ k0 + rc by omega) hk.1), (Nat.le_trans (show n0 + 6 ≤ n0 + rs by omega) hk.2)⟩ (Nat.le_of_ble_eq_true rfl) (sb_zr (sb_of [0, 1, 2, 3, 41, 4, 5, 6, 7, 8, 9, 10, 11, 12, 13, 14, 15, 16, 17, 18, 19, 20, 21, 22, 23, 24, 25, 26, 27, 28, 29, 30, 31, 32, 33, 34, 35, 36, 37, 38, 39, 40] rfl rfl)) rfl dL_law_464 (fun v X1 hp => ?_)
    obtain ⟨r64, w65, rfl, rfl, h⟩ := hp
    have hk : k0 + 1 + mc66 ≤ (rm_L_law).cells ∧ n0 + 6 + ms67 ≤ (rm_L_law).slots := ⟨Nat.le_trans (show k0 + 1 + mc66 ≤ k0 + rc by omega) hk.1, Nat.le_trans (show n0 + 6 + ms67 ≤ n0 + rs by omega) hk.2⟩
    refine xw_X (sb_rz (sb_of [0, 1, 2, 3, 5, 6, 7, 8, 9, 10, 11, 12, 13, 14, 15, 16, 17, 18, 19, 20, 21, 22, 23, 24, 25, 26, 27, 28, 29, 30, 31, 32, 33, 34, 35, 36, 37, 38, 39, 40, 41, 4] rfl rfl)) (show ww x (W_L_law (xg x) a0 a1 a2 a3 a4 a5 a6 a7 a8 a9 a10 a11 a12 a13 a14 a15 a16 a17 a18 a19 a20 a21 a22 a23 a24 a25 a26 a27 a28 a29 a30 a31 a32 a33 a34 a35 a36 a37 a38 a39 ab v0 v1 v2 v3 v4 v5 v6 v7 v8 v9 v10 v11 v12 v13 v14 v15 v16 v17 v18 v19 v20 v21 v22 v23 v24 v25 v26 v27 v28 v29 v30 v31 v32 v33 v34 v35 v36 v37 v38 v39 v40 v41 v42 v43 w65 v46 v47 ++ ZP (xg x) a39 v45) [(0, .ref ab), (1, .ref a0), (2, .ref a27), (3, .ref a38), (4, .int z4)] (k0 + 1) (n0 + 6) 467 [.int r64] from ?_)
    refine xw_istore hf (pc := 467) dL_law_467 [(5, .int r64), (0, .ref ab), (1, .ref a0), (2, .ref a27), (3, .ref a38), (4, .int z4)] hn (by decide) rfl ?_
    refine xw_aload_n hf (pc := 469) dL_law_469 rfl 3 rfl ?_
    refine xw_aload_n hf (pc := 470) dL_law_470 rfl 1 rfl ?_
    refine xw_iload hf (pc := 471) dL_law_471 5 rfl ?_
    refine xw_iconst hf (pc := 473) dL_law_473 (v := 1) (by decide) ?_
    refine xw_iadd hf (pc := 474) dL_law_474 ?_
    refine xw_sald hf hX dL_law_475 h.1 ?_
    have h := h.2
    refine xw_i2l hf (pc := 476) dL_law_476 ?_
    refine xw_bipush hf (pc := 477) dL_law_477 (v := 32) (by decide) ?_
    refine xw_lshl hf (pc := 479) dL_law_479 ?_
    refine xw_aload_n hf (pc := 480) dL_law_480 rfl 1 rfl ?_
    refine xw_iload hf (pc := 481) dL_law_481 5 rfl ?_
    refine xw_iconst hf (pc := 483) dL_law_483 (v := 2) (by decide) ?_
    refine xw_iadd hf (pc := 484) dL_law_484 ?_
    refine xw_sald hf hX dL_law_485 h.1 ?_
    have h := h.2
    refine xw_i2l hf (pc := 486) dL_law_486 ?_
    refine xw_ldc2 hf (pc := 487) dL_law_487 mw_L_law_0 ?_
    refine xw_land hf (pc := 490) dL_law_490 ?_
    refine xw_lor hf (pc := 491) dL_law_491 ?_
    refine xw_callV hf (pc := 492) (nA := 1) (Xr := [(a0, .inr (8, [.ref a1, .ref a8, .ref a13, .ref a18, .ref a25])), (a1, .inr (2, [.ref a2, .ref a4, .ref a6])), (a2, .inr (7, [.ref a3, .int v0])), (a3, .inl (gJ (xg x), 60, .inr (.inl v1))), (a4, .inr (7, [.ref a5, .int v2])), (a5, .inl (gJ (xg x), 60, .inr (.inl v3))), (a6, .inr (3, [.ref a7])), (a7, .inl (gI (xg x), 32, .inl v4)), (a8, .inr (6, [.ref a9, .ref a11, .ref a12])), (a9, .inr (3, [.ref a10])), (a10, .inl (gI (xg x), 32, .inl v5)), (a11, .inl (gI (xg x), 32, .inl v6)), (a12, .inl (gI (xg x), 32, .inl v7)), (a13, .inr (1, [.ref a39, .ref a14, .ref a16, .int v8])), (a14, .inr (3, [.ref a15])), (a15, .inl (gI (xg x), 32, .inl v9)), (a16, .inr (3, [.ref a17])), (a17, .inl (gI (xg x), 32, .inl v10)), (a18, .inr (4, [.ref a19, .ref a21, .ref a23, .int v11, .int v12])), (a19, .inr (3, [.ref a20])), (a20, .inl (gI (xg x), 32, .inl v13)), (a21, .inr (7, [.ref a22, .int v14])), (a22, .inl (gJ (xg x), 60, .inr (.inl v15))), (a23, .inr (7, [.ref a24, .int v16])), (a24, .inl (gJ (xg x), 60, .inr (.inl v17))), (a25, .inr (3, [.ref a26])), (a26, .inl (gI (xg x), 32, .inl v18)), (a29, .inl (gI (xg x), 27, .inl v26)), (a30, .inl (gI (xg x), 27, .inl v27)), (a31, .inl (gI (xg x), 27, .inl v28)), (a32, .inl (gI (xg x), 27, .inl v29)), (v30, .inl (gJ (xg x), v31, .inr (.inl v32))), (v33, .inl (gI (xg x), v34, .inl v35)), (v36, .inl (gZ (xg x), v37, .inl v38)), (a33, .inl (gI (xg x), 12, .inl v39)), (a34, .inl (gI (xg x), 27, .inl v40)), (a35, .inl (gI (xg x), 27, .inl v41)), (a36, .inl (gI (xg x), 60, .inl v42)), (a37, .inl (gI (xg x), 3, .inl v43)), (a38, .inl (gJ (xg x), 1, .inr (.inl w65)))] ++ ZP (xg x) a39 v45) (rest := []) (T := TX9) (c_X9_hasWord (xl x) (xg x) a27 a28 a29 a30 a31 a32 v30 v33 v36 a33 a34 a35 a36 a37 v19 v20 v21 v22 v23 v24 v25 ((((v47 (z4 + 1).toNatClampNeg).toInt64) <<< ((32 : Int32).toInt64 &&& 63)) ||| (((v47 (z4 + 2).toNatClampNeg).toInt64) &&& 4294967295)) h) gL_law_X9_hasWord (by rfl) rfl rfl (by decide +kernel) ⟨⟨(Nat.le_of_ble_eq_true rfl), (Nat.le_of_ble_eq_true rfl)⟩, (Nat.le_trans (Nat.le_add_right _ _) hk.1), (Nat.le_trans (Nat.le_add_right _ _) hk.2)⟩ (Nat.le_of_ble_eq_true rfl) rfl rfl (sb_zr (sb_of [27, 28, 0, 1, 2, 3, 4, 5, 6, 7, 8, 9, 10, 11, 12, 13, 14, 15, 16, 17, 18, 19, 20, 21, 22, 23, 24, 25, 26, 29, 30, 31, 32, 33, 34, 35, 36, 37, 38, 39, 40, 41] rfl rfl)) rfl dL_law_492 (fun v X1 hp => ?_)
    obtain ⟨r68, w69, rfl, rfl, h⟩ := hp
    refine xw_X (sb_rz (sb_of [2, 3, 4, 5, 6, 7, 8, 9, 10, 11, 12, 13, 14, 15, 16, 17, 18, 19, 20, 21, 22, 23, 24, 25, 26, 27, 28, 0, 1, 29, 30, 31, 32, 33, 34, 35, 36, 37, 38, 39, 40, 41] rfl rfl)) (show ww x (W_L_law (xg x) a0 a1 a2 a3 a4 a5 a6 a7 a8 a9 a10 a11 a12 a13 a14 a15 a16 a17 a18 a19 a20 a21 a22 a23 a24 a25 a26 a27 a28 a29 a30 a31 a32 a33 a34 a35 a36 a37 a38 a39 ab v0 v1 v2 v3 v4 v5 v6 v7 v8 v9 v10 v11 v12 v13 v14 v15 v16 v17 v18 w69 v20 v21 v22 v23 v24 v25 v26 v27 v28 v29 v30 v31 v32 v33 v34 v35 v36 v37 v38 v39 v40 v41 v42 v43 w65 v46 v47 ++ ZP (xg x) a39 v45) [(5, .int r64), (0, .ref ab), (1, .ref a0), (2, .ref a27), (3, .ref a38), (4, .int z4)] (k0 + 1) (n0 + 6) 495 [.int r68] from ?_)
    refine xw_istore hf (pc := 495) dL_law_495 [(6, .int r68), (5, .int r64), (0, .ref ab), (1, .ref a0), (2, .ref a27), (3, .ref a38), (4, .int z4)] hn (by decide) rfl ?_
    refine xw_aload_n hf (pc := 497) dL_law_497 rfl 4 rfl ?_
    refine xw_callV hf (pc := 498) (nA := 0) (Xr := [(a0, .inr (8, [.ref a1, .ref a8, .ref a13, .ref a18, .ref a25])), (a1, .inr (2, [.ref a2, .ref a4, .ref a6])), (a2, .inr (7, [.ref a3, .int v0])), (a3, .inl (gJ (xg x), 60, .inr (.inl v1))), (a4, .inr (7, [.ref a5, .int v2])), (a5, .inl (gJ (xg x), 60, .inr (.inl v3))), (a6, .inr (3, [.ref a7])), (a7, .inl (gI (xg x), 32, .inl v4)), (a8, .inr (6, [.ref a9, .ref a11, .ref a12])), (a9, .inr (3, [.ref a10])), (a10, .inl (gI (xg x), 32, .inl v5)), (a11, .inl (gI (xg x), 32, .inl v6)), (a12, .inl (gI (xg x), 32, .inl v7)), (a13, .inr (1, [.ref a39, .ref a14, .ref a16, .int v8])), (a14, .inr (3, [.ref a15])), (a15, .inl (gI (xg x), 32, .inl v9)), (a16, .inr (3, [.ref a17])), (a17, .inl (gI (xg x), 32, .inl v10)), (a18, .inr (4, [.ref a19, .ref a21, .ref a23, .int v11, .int v12])), (a19, .inr (3, [.ref a20])), (a20, .inl (gI (xg x), 32, .inl v13)), (a21, .inr (7, [.ref a22, .int v14])), (a22, .inl (gJ (xg x), 60, .inr (.inl v15))), (a23, .inr (7, [.ref a24, .int v16])), (a24, .inl (gJ (xg x), 60, .inr (.inl v17))), (a25, .inr (3, [.ref a26])), (a26, .inl (gI (xg x), 32, .inl v18)), (a28, .inl (gJ (xg x), 60, .inr (.inl v25))), (a29, .inl (gI (xg x), 27, .inl v26)), (a30, .inl (gI (xg x), 27, .inl v27)), (a31, .inl (gI (xg x), 27, .inl v28)), (a32, .inl (gI (xg x), 27, .inl v29)), (v30, .inl (gJ (xg x), v31, .inr (.inl v32))), (v33, .inl (gI (xg x), v34, .inl v35)), (v36, .inl (gZ (xg x), v37, .inl v38)), (a33, .inl (gI (xg x), 12, .inl v39)), (a34, .inl (gI (xg x), 27, .inl v40)), (a35, .inl (gI (xg x), 27, .inl v41)), (a36, .inl (gI (xg x), 60, .inl v42)), (a37, .inl (gI (xg x), 3, .inl v43)), (a38, .inl (gJ (xg x), 1, .inr (.inl w65)))] ++ ZP (xg x) a39 v45) (rest := []) (T := TX9) (c_X9_thrown (xl x) (xg x) a27 a28 a29 a30 a31 a32 v30 v33 v36 a33 a34 a35 a36 a37 w69 v20 v21 v22 v23 v24 h) gL_law_X9_thrown (by rfl) rfl rfl (by decide +kernel) ⟨⟨(Nat.le_of_ble_eq_true rfl), (Nat.le_of_ble_eq_true rfl)⟩, (Nat.le_trans (Nat.le_add_right _ _) hk.1), (Nat.le_trans (Nat.le_add_right _ _) hk.2)⟩ (Nat.le_of_ble_eq_true rfl) rfl rfl (sb_zr (sb_of [27, 0, 1, 2, 3, 4, 5, 6, 7, 8, 9, 10, 11, 12, 13, 14, 15, 16, 17, 18, 19, 20, 21, 22, 23, 24, 25, 26, 28, 29, 30, 31, 32, 33, 34, 35, 36, 37, 38, 39, 40, 41] rfl rfl)) rfl dL_law_498 (fun v X1 hp => ?_)
    obtain ⟨r70, rfl, rfl, h⟩ := hp
    refine xw_X (sb_rz (sb_of [1, 2, 3, 4, 5, 6, 7, 8, 9, 10, 11, 12, 13, 14, 15, 16, 17, 18, 19, 20, 21, 22, 23, 24, 25, 26, 27, 0, 28, 29, 30, 31, 32, 33, 34, 35, 36, 37, 38, 39, 40, 41] rfl rfl)) (show ww x (W_L_law (xg x) a0 a1 a2 a3 a4 a5 a6 a7 a8 a9 a10 a11 a12 a13 a14 a15 a16 a17 a18 a19 a20 a21 a22 a23 a24 a25 a26 a27 a28 a29 a30 a31 a32 a33 a34 a35 a36 a37 a38 a39 ab v0 v1 v2 v3 v4 v5 v6 v7 v8 v9 v10 v11 v12 v13 v14 v15 v16 v17 v18 w69 v20 v21 v22 v23 v24 v25 v26 v27 v28 v29 v30 v31 v32 v33 v34 v35 v36 v37 v38 v39 v40 v41 v42 v43 w65 v46 v47 ++ ZP (xg x) a39 v45) [(6, .int r68), (5, .int r64), (0, .ref ab), (1, .ref a0), (2, .ref a27), (3, .ref a38), (4, .int z4)] (k0 + 1) (n0 + 6) 501 [.int r70] from ?_)
    refine xw_iload hf (pc := 501) dL_law_501 1 rfl ?_
    refine xw_icmp_eq hf (pc := 503) dL_law_503 (tgt := 508) rfl ⟨fun c => ?_, fun c => ?_⟩
    · have h := h.1 c
      refine xw_iload hf (pc := 508) dL_law_508 1 rfl ?_
      refine xw_if_ne hf (pc := 510) dL_law_510 (c := r64 = 0) Iff.rfl (tgt := 532) rfl ⟨fun c => ?_, fun c => ?_⟩
      · have h := h.1 c
        refine xw_aload_n hf (pc := 513) dL_law_513 rfl 5 rfl ?_
        refine xw_iconst hf (pc := 514) dL_law_514 (v := 0) (by decide) ?_
        refine xw_lald hf (pc := 515) dL_law_515 41 rfl h.1 ?_
        have h := h.2
        refine xw_iload hf (pc := 516) dL_law_516 0 rfl ?_
        refine xw_if_eq hf (pc := 518) dL_law_518 (c := r68 = 0) Iff.rfl (tgt := 525) rfl ⟨fun c => ?_, fun c => ?_⟩
        · have h := h.1 c
          refine xw_lconst hf (pc := 525) dL_law_525 (v := 0) (by decide) ?_
          refine xw_lcmp hf (pc := 526) dL_law_526 ?_
          refine xw_if_eq hf (pc := 527) dL_law_527 (c := (w65 (0 : Int32).toNatClampNeg) = 0) (lc_eq _ _) (tgt := 532) rfl ⟨fun c => ?_, fun c => ?_⟩
          · have h := h.1 c
            refine xw_goto hf (pc := 532) dL_law_532 (tgt := 2681) rfl ?_
            refine xw_L [2, 3, 4, 5, 6] rfl ?_
            exact hK2681 _ _ _ _ hk _ _ h
          · have h := h.2 c
            refine xw_iconst hf (pc := 530) dL_law_530 (v := 0) (by decide) ?_
            exact h.elim
        · have h := h.2 c
          refine xw_lconst hf (pc := 521) dL_law_521 (v := 1) (by decide) ?_
          refine xw_goto hf (pc := 522) dL_law_522 (tgt := 526) rfl ?_
          refine xw_lcmp hf (pc := 526) dL_law_526 ?_
          refine xw_if_eq hf (pc := 527) dL_law_527 (c := (w65 (0 : Int32).toNatClampNeg) = 1) (lc_eq _ _) (tgt := 532) rfl ⟨fun c => ?_, fun c => ?_⟩
          · have h := h.1 c
            refine xw_goto hf (pc := 532) dL_law_532 (tgt := 2681) rfl ?_
            refine xw_L [2, 3, 4, 5, 6] rfl ?_
            exact hK2681 _ _ _ _ hk _ _ h
          · have h := h.2 c
            refine xw_iconst hf (pc := 530) dL_law_530 (v := 0) (by decide) ?_
            exact h.elim
      · have h := h.2 c
        refine xw_goto hf (pc := 532) dL_law_532 (tgt := 2681) rfl ?_
        refine xw_L [2, 3, 4, 5, 6] rfl ?_
        exact hK2681 _ _ _ _ hk _ _ h
    · have h := h.2 c
      refine xw_iconst hf (pc := 506) dL_law_506 (v := 0) (by decide) ?_
      exact h.elim
set_option maxHeartbeats 4000000 in
set_option maxRecDepth 100000 in
theorem w_L_law_L535 {x : Cx} {mc ms : Nat} (hf : fx x (rm_L_law) RL cL_law wsL_law) (hn : xn x = 8) {k0 n0 rc rs : Nat} (hk : k0 + rc ≤ (rm_L_law).cells ∧ n0 + rs ≤ (rm_L_law).slots) (a0 a1 a2 a3 a4 a5 a6 a7 a8 a9 a10 a11 a12 a13 a14 a15 a16 a17 a18 a19 a20 a21 a22 a23 a24 a25 a26 a27 a28 a29 a30 a31 a32 a33 a34 a35 a36 a37 a38 a39 ab : Nat) (z4 : Int32) (v0 : Int32) (v1 : Nat → Int64) (v20 : Int32) (v21 : Int32) (v22 : Int32) (v24 : Int32) (v25 : Nat → Int64) (v46 : Nat) (v47 : Nat → Int32) (v5 : Nat → Int32) (v6 : Nat → Int32) (v7 : Nat → Int32) (v8 : Int32) (v9 : Nat → Int32) (v10 : Nat → Int32) (v11 : Int32) (v12 : Int32) (v13 : Nat → Int32) (v14 : Int32) (v15 : Nat → Int64) (v16 : Int32) (v17 : Nat → Int64) (v18 : Nat → Int32) (v26 : Nat → Int32) (v27 : Nat → Int32) (v28 : Nat → Int32) (v29 : Nat → Int32) (v30 : Nat) (v31 : Nat) (v32 : Nat → Int64) (v33 : Nat) (v34 : Nat) (v35 : Nat → Int32) (v36 : Nat) (v37 : Nat) (v38 : Nat → Int32) (v41 : Nat → Int32) (v42 : Nat → Int32) (v43 : Nat → Int32) (v45 : ZL) {K2681 : Nat → Nat → Int32 → (Nat → Int64) → (Nat → Int32) → Int32 → Int32 → (Nat → Int32) → (Nat → Int32) → (Nat → Int64) → Prop} (hst : (xl x).stackTraces = false) (hX : sX x ab v46 v47)
    (n : Nat) (v2 : Int32) (v3 : Nat → Int64) (v4 : Nat → Int32) (v19 : Int32) (v23 : Int32) (v39 : Nat → Int32) (v40 : Nat → Int32) (v44 : Nat → Int64) (h : P_L_law_L535 z4 v0 v1 v20 v21 v22 v24 v25 v46 v47 K2681 n rc rs v2 v3 v4 v19 v23 v39 v40 v44)
    (hK2681 : ∀ (k0 n0 rc rs : Nat), k0 + rc ≤ (rm_L_law).cells ∧ n0 + rs ≤ (rm_L_law).slots → ∀ (uv2 : Int32), ∀ (uv3 : Nat → Int64), ∀ (uv4 : Nat → Int32), ∀ (uv19 : Int32), ∀ (uv23 : Int32), ∀ (uv39 : Nat → Int32), ∀ (uv40 : Nat → Int32), ∀ (uv44 : Nat → Int64), K2681 rc rs uv2 uv3 uv4 uv19 uv23 uv39 uv40 uv44 → ww x (W_L_law (xg x) a0 a1 a2 a3 a4 a5 a6 a7 a8 a9 a10 a11 a12 a13 a14 a15 a16 a17 a18 a19 a20 a21 a22 a23 a24 a25 a26 a27 a28 a29 a30 a31 a32 a33 a34 a35 a36 a37 a38 a39 ab v0 v1 uv2 uv3 uv4 v5 v6 v7 v8 v9 v10 v11 v12 v13 v14 v15 v16 v17 v18 uv19 v20 v21 v22 uv23 v24 v25 v26 v27 v28 v29 v30 v31 v32 v33 v34 v35 v36 v37 v38 uv39 uv40 v41 v42 v43 uv44 v46 v47 ++ ZP (xg x) a39 v45) [(0, .ref ab), (1, .ref a0), (2, .ref a27), (3, .ref a38), (4, .int z4)] k0 n0 2681 []) :
    ww x (W_L_law (xg x) a0 a1 a2 a3 a4 a5 a6 a7 a8 a9 a10 a11 a12 a13 a14 a15 a16 a17 a18 a19 a20 a21 a22 a23 a24 a25 a26 a27 a28 a29 a30 a31 a32 a33 a34 a35 a36 a37 a38 a39 ab v0 v1 v2 v3 v4 v5 v6 v7 v8 v9 v10 v11 v12 v13 v14 v15 v16 v17 v18 v19 v20 v21 v22 v23 v24 v25 v26 v27 v28 v29 v30 v31 v32 v33 v34 v35 v36 v37 v38 v39 v40 v41 v42 v43 v44 v46 v47 ++ ZP (xg x) a39 v45) [(0, .ref ab), (1, .ref a0), (2, .ref a27), (3, .ref a38), (4, .int z4)] k0 n0 535 [] := by
  induction n generalizing k0 n0 rc rs v2 v3 v4 v19 v23 v39 v40 v44 with
  | zero => exact h.elim
  | succ n ih =>
    unfold P_L_law_L535 at h
    refine xw_aload_n hf (pc := 535) dL_law_535 rfl 1 rfl ?_
    refine xw_aload_n hf (pc := 536) dL_law_536 rfl 0 rfl ?_
    refine xw_iload hf (pc := 537) dL_law_537 4 rfl ?_
    refine xw_iconst hf (pc := 539) dL_law_539 (v := 1) (by decide) ?_
    refine xw_iadd hf (pc := 540) dL_law_540 ?_
    refine xw_sald hf hX dL_law_541 h.1 ?_
    have h := h.2
    refine xw_i2l hf (pc := 542) dL_law_542 ?_
    refine xw_bipush hf (pc := 543) dL_law_543 (v := 32) (by decide) ?_
    refine xw_lshl hf (pc := 545) dL_law_545 ?_
    refine xw_aload_n hf (pc := 546) dL_law_546 rfl 0 rfl ?_
    refine xw_iload hf (pc := 547) dL_law_547 4 rfl ?_
    refine xw_iconst hf (pc := 549) dL_law_549 (v := 2) (by decide) ?_
    refine xw_iadd hf (pc := 550) dL_law_550 ?_
    refine xw_sald hf hX dL_law_551 h.1 ?_
    have h := h.2
    refine xw_i2l hf (pc := 552) dL_law_552 ?_
    refine xw_ldc2 hf (pc := 553) dL_law_553 mw_L_law_0 ?_
    refine xw_land hf (pc := 556) dL_law_556 ?_
    refine xw_lor hf (pc := 557) dL_law_557 ?_
    refine xw_aload_n hf (pc := 558) dL_law_558 rfl 3 rfl ?_
    obtain ⟨mc82, ms83, ⟨hb1, hb2⟩, h⟩ := h
    refine xw_callSW hf (pc := 559) (nA := 3) (Xr := [(a8, .inr (6, [.ref a9, .ref a11, .ref a12])), (a9, .inr (3, [.ref a10])), (a10, .inl (gI (xg x), 32, .inl v5)), (a11, .inl (gI (xg x), 32, .inl v6)), (a12, .inl (gI (xg x), 32, .inl v7)), (a13, .inr (1, [.ref a39, .ref a14, .ref a16, .int v8])), (a14, .inr (3, [.ref a15])), (a15, .inl (gI (xg x), 32, .inl v9)), (a16, .inr (3, [.ref a17])), (a17, .inl (gI (xg x), 32, .inl v10)), (a18, .inr (4, [.ref a19, .ref a21, .ref a23, .int v11, .int v12])), (a19, .inr (3, [.ref a20])), (a20, .inl (gI (xg x), 32, .inl v13)), (a21, .inr (7, [.ref a22, .int v14])), (a22, .inl (gJ (xg x), 60, .inr (.inl v15))), (a23, .inr (7, [.ref a24, .int v16])), (a24, .inl (gJ (xg x), 60, .inr (.inl v17))), (a25, .inr (3, [.ref a26])), (a26, .inl (gI (xg x), 32, .inl v18)), (a27, .inr (9, [.int v19, .ref a28, .int v20, .ref a29, .ref a30, .ref a31, .ref a32, .ref v30, .ref v33, .ref v36, .int v21, .int v22, .ref a33, .int v23, .ref a34, .ref a35, .ref a36, .ref a37, .int v24])), (a28, .inl (gJ (xg x), 60, .inr (.inl v25))), (a29, .inl (gI (xg x), 27, .inl v26)), (a30, .inl (gI (xg x), 27, .inl v27)), (a31, .inl (gI (xg x), 27, .inl v28)), (a32, .inl (gI (xg x), 27, .inl v29)), (v30, .inl (gJ (xg x), v31, .inr (.inl v32))), (v33, .inl (gI (xg x), v34, .inl v35)), (v36, .inl (gZ (xg x), v37, .inl v38)), (a33, .inl (gI (xg x), 12, .inl v39)), (a34, .inl (gI (xg x), 27, .inl v40)), (a35, .inl (gI (xg x), 27, .inl v41)), (a36, .inl (gI (xg x), 60, .inl v42)), (a37, .inl (gI (xg x), 3, .inl v43))] ++ ZP (xg x) a39 v45) (rest := []) (c_L_anagramCount (xl x) (xg x) hst a0 a1 a2 a3 a4 a5 a6 a7 a38 a8 a13 a18 a25 v0 v1 v2 v3 v4 v44 ((((v47 (z4 + 1).toNatClampNeg).toInt64) <<< ((32 : Int32).toInt64 &&& 63)) ||| (((v47 (z4 + 2).toNatClampNeg).toInt64) &&& 4294967295)) h) gL_law_L_anagramCount (by rfl) rfl (by decide +kernel) ⟨⟨(Nat.le_of_ble_eq_true rfl), (Nat.le_of_ble_eq_true rfl)⟩, (Nat.le_trans (show k0 + 1 ≤ k0 + rc by omega) hk.1), (Nat.le_trans (show n0 + 6 ≤ n0 + rs by omega) hk.2)⟩ (Nat.le_of_ble_eq_true rfl) (sb_zr (sb_of [0, 1, 2, 3, 4, 5, 6, 7, 41, 8, 9, 10, 11, 12, 13, 14, 15, 16, 17, 18, 19, 20, 21, 22, 23, 24, 25, 26, 27, 28, 29, 30, 31, 32, 33, 34, 35, 36, 37, 38, 39, 40] rfl rfl)) rfl dL_law_559 (fun v X1 hp => ?_)
    obtain ⟨r77, w78, w79, w80, w81, rfl, rfl, h⟩ := hp
    have hk : k0 + 1 + mc82 ≤ (rm_L_law).cells ∧ n0 + 6 + ms83 ≤ (rm_L_law).slots := ⟨Nat.le_trans (show k0 + 1 + mc82 ≤ k0 + rc by omega) hk.1, Nat.le_trans (show n0 + 6 + ms83 ≤ n0 + rs by omega) hk.2⟩
    refine xw_X (sb_rz (sb_of [0, 1, 2, 3, 4, 5, 6, 7, 9, 10, 11, 12, 13, 14, 15, 16, 17, 18, 19, 20, 21, 22, 23, 24, 25, 26, 27, 28, 29, 30, 31, 32, 33, 34, 35, 36, 37, 38, 39, 40, 41, 8] rfl rfl)) (show ww x (W_L_law (xg x) a0 a1 a2 a3 a4 a5 a6 a7 a8 a9 a10 a11 a12 a13 a14 a15 a16 a17 a18 a19 a20 a21 a22 a23 a24 a25 a26 a27 a28 a29 a30 a31 a32 a33 a34 a35 a36 a37 a38 a39 ab v0 v1 w78 w79 w80 v5 v6 v7 v8 v9 v10 v11 v12 v13 v14 v15 v16 v17 v18 v19 v20 v21 v22 v23 v24 v25 v26 v27 v28 v29 v30 v31 v32 v33 v34 v35 v36 v37 v38 v39 v40 v41 v42 v43 w81 v46 v47 ++ ZP (xg x) a39 v45) [(0, .ref ab), (1, .ref a0), (2, .ref a27), (3, .ref a38), (4, .int z4)] (k0 + 1) (n0 + 6) 562 [.int r77] from ?_)
    refine xw_istore hf (pc := 562) dL_law_562 [(5, .int r77), (0, .ref ab), (1, .ref a0), (2, .ref a27), (3, .ref a38), (4, .int z4)] hn (by decide) rfl ?_
    refine xw_aload_n hf (pc := 564) dL_law_564 rfl 3 rfl ?_
    refine xw_aload_n hf (pc := 565) dL_law_565 rfl 1 rfl ?_
    refine xw_iload hf (pc := 566) dL_law_566 5 rfl ?_
    refine xw_iconst hf (pc := 568) dL_law_568 (v := 1) (by decide) ?_
    refine xw_iadd hf (pc := 569) dL_law_569 ?_
    refine xw_sald hf hX dL_law_570 h.1 ?_
    have h := h.2
    refine xw_i2l hf (pc := 571) dL_law_571 ?_
    refine xw_bipush hf (pc := 572) dL_law_572 (v := 32) (by decide) ?_
    refine xw_lshl hf (pc := 574) dL_law_574 ?_
    refine xw_aload_n hf (pc := 575) dL_law_575 rfl 1 rfl ?_
    refine xw_iload hf (pc := 576) dL_law_576 5 rfl ?_
    refine xw_iconst hf (pc := 578) dL_law_578 (v := 2) (by decide) ?_
    refine xw_iadd hf (pc := 579) dL_law_579 ?_
    refine xw_sald hf hX dL_law_580 h.1 ?_
    have h := h.2
    refine xw_i2l hf (pc := 581) dL_law_581 ?_
    refine xw_ldc2 hf (pc := 582) dL_law_582 mw_L_law_0 ?_
    refine xw_land hf (pc := 585) dL_law_585 ?_
    refine xw_lor hf (pc := 586) dL_law_586 ?_
    refine xw_callV hf (pc := 587) (nA := 1) (Xr := [(a0, .inr (8, [.ref a1, .ref a8, .ref a13, .ref a18, .ref a25])), (a1, .inr (2, [.ref a2, .ref a4, .ref a6])), (a2, .inr (7, [.ref a3, .int v0])), (a3, .inl (gJ (xg x), 60, .inr (.inl v1))), (a4, .inr (7, [.ref a5, .int w78])), (a5, .inl (gJ (xg x), 60, .inr (.inl w79))), (a6, .inr (3, [.ref a7])), (a7, .inl (gI (xg x), 32, .inl w80)), (a8, .inr (6, [.ref a9, .ref a11, .ref a12])), (a9, .inr (3, [.ref a10])), (a10, .inl (gI (xg x), 32, .inl v5)), (a11, .inl (gI (xg x), 32, .inl v6)), (a12, .inl (gI (xg x), 32, .inl v7)), (a13, .inr (1, [.ref a39, .ref a14, .ref a16, .int v8])), (a14, .inr (3, [.ref a15])), (a15, .inl (gI (xg x), 32, .inl v9)), (a16, .inr (3, [.ref a17])), (a17, .inl (gI (xg x), 32, .inl v10)), (a18, .inr (4, [.ref a19, .ref a21, .ref a23, .int v11, .int v12])), (a19, .inr (3, [.ref a20])), (a20, .inl (gI (xg x), 32, .inl v13)), (a21, .inr (7, [.ref a22, .int v14])), (a22, .inl (gJ (xg x), 60, .inr (.inl v15))), (a23, .inr (7, [.ref a24, .int v16])), (a24, .inl (gJ (xg x), 60, .inr (.inl v17))), (a25, .inr (3, [.ref a26])), (a26, .inl (gI (xg x), 32, .inl v18)), (a29, .inl (gI (xg x), 27, .inl v26)), (a30, .inl (gI (xg x), 27, .inl v27)), (a31, .inl (gI (xg x), 27, .inl v28)), (a32, .inl (gI (xg x), 27, .inl v29)), (v30, .inl (gJ (xg x), v31, .inr (.inl v32))), (v33, .inl (gI (xg x), v34, .inl v35)), (v36, .inl (gZ (xg x), v37, .inl v38)), (a35, .inl (gI (xg x), 27, .inl v41)), (a36, .inl (gI (xg x), 60, .inl v42)), (a37, .inl (gI (xg x), 3, .inl v43)), (a38, .inl (gJ (xg x), 1, .inr (.inl w81)))] ++ ZP (xg x) a39 v45) (rest := []) (T := TX9) (c_X9_anagramCount (xl x) (xg x) a27 a28 a33 a34 a29 a30 a31 a32 v30 v33 v36 a35 a36 a37 v19 v20 v21 v22 v23 v24 v25 v39 v40 ((((v47 (z4 + 1).toNatClampNeg).toInt64) <<< ((32 : Int32).toInt64 &&& 63)) ||| (((v47 (z4 + 2).toNatClampNeg).toInt64) &&& 4294967295)) h) gL_law_X9_anagramCount (by rfl) rfl rfl (by decide +kernel) ⟨⟨(Nat.le_of_ble_eq_true rfl), (Nat.le_of_ble_eq_true rfl)⟩, (Nat.le_trans (Nat.le_add_right _ _) hk.1), (Nat.le_trans (Nat.le_add_right _ _) hk.2)⟩ (Nat.le_of_ble_eq_true rfl) rfl rfl (sb_zr (sb_of [27, 28, 36, 37, 0, 1, 2, 3, 4, 5, 6, 7, 8, 9, 10, 11, 12, 13, 14, 15, 16, 17, 18, 19, 20, 21, 22, 23, 24, 25, 26, 29, 30, 31, 32, 33, 34, 35, 38, 39, 40, 41] rfl rfl)) rfl dL_law_587 (fun v X1 hp => ?_)
    obtain ⟨r84, w85, w86, w87, w88, rfl, rfl, h⟩ := hp
    refine xw_X (sb_rz (sb_of [4, 5, 6, 7, 8, 9, 10, 11, 12, 13, 14, 15, 16, 17, 18, 19, 20, 21, 22, 23, 24, 25, 26, 27, 28, 29, 30, 0, 1, 31, 32, 33, 34, 35, 36, 37, 2, 3, 38, 39, 40, 41] rfl rfl)) (show ww x (W_L_law (xg x) a0 a1 a2 a3 a4 a5 a6 a7 a8 a9 a10 a11 a12 a13 a14 a15 a16 a17 a18 a19 a20 a21 a22 a23 a24 a25 a26 a27 a28 a29 a30 a31 a32 a33 a34 a35 a36 a37 a38 a39 ab v0 v1 w78 w79 w80 v5 v6 v7 v8 v9 v10 v11 v12 v13 v14 v15 v16 v17 v18 w85 v20 v21 v22 w86 v24 v25 v26 v27 v28 v29 v30 v31 v32 v33 v34 v35 v36 v37 v38 w87 w88 v41 v42 v43 w81 v46 v47 ++ ZP (xg x) a39 v45) [(5, .int r77), (0, .ref ab), (1, .ref a0), (2, .ref a27), (3, .ref a38), (4, .int z4)] (k0 + 1) (n0 + 6) 590 [.int r84] from ?_)
    refine xw_istore hf (pc := 590) dL_law_590 [(6, .int r84), (5, .int r77), (0, .ref ab), (1, .ref a0), (2, .ref a27), (3, .ref a38), (4, .int z4)] hn (by decide) rfl ?_
    refine xw_aload_n hf (pc := 592) dL_law_592 rfl 4 rfl ?_
    refine xw_callV hf (pc := 593) (nA := 0) (Xr := [(a0, .inr (8, [.ref a1, .ref a8, .ref a13, .ref a18, .ref a25])), (a1, .inr (2, [.ref a2, .ref a4, .ref a6])), (a2, .inr (7, [.ref a3, .int v0])), (a3, .inl (gJ (xg x), 60, .inr (.inl v1))), (a4, .inr (7, [.ref a5, .int w78])), (a5, .inl (gJ (xg x), 60, .inr (.inl w79))), (a6, .inr (3, [.ref a7])), (a7, .inl (gI (xg x), 32, .inl w80)), (a8, .inr (6, [.ref a9, .ref a11, .ref a12])), (a9, .inr (3, [.ref a10])), (a10, .inl (gI (xg x), 32, .inl v5)), (a11, .inl (gI (xg x), 32, .inl v6)), (a12, .inl (gI (xg x), 32, .inl v7)), (a13, .inr (1, [.ref a39, .ref a14, .ref a16, .int v8])), (a14, .inr (3, [.ref a15])), (a15, .inl (gI (xg x), 32, .inl v9)), (a16, .inr (3, [.ref a17])), (a17, .inl (gI (xg x), 32, .inl v10)), (a18, .inr (4, [.ref a19, .ref a21, .ref a23, .int v11, .int v12])), (a19, .inr (3, [.ref a20])), (a20, .inl (gI (xg x), 32, .inl v13)), (a21, .inr (7, [.ref a22, .int v14])), (a22, .inl (gJ (xg x), 60, .inr (.inl v15))), (a23, .inr (7, [.ref a24, .int v16])), (a24, .inl (gJ (xg x), 60, .inr (.inl v17))), (a25, .inr (3, [.ref a26])), (a26, .inl (gI (xg x), 32, .inl v18)), (a28, .inl (gJ (xg x), 60, .inr (.inl v25))), (a29, .inl (gI (xg x), 27, .inl v26)), (a30, .inl (gI (xg x), 27, .inl v27)), (a31, .inl (gI (xg x), 27, .inl v28)), (a32, .inl (gI (xg x), 27, .inl v29)), (v30, .inl (gJ (xg x), v31, .inr (.inl v32))), (v33, .inl (gI (xg x), v34, .inl v35)), (v36, .inl (gZ (xg x), v37, .inl v38)), (a33, .inl (gI (xg x), 12, .inl w87)), (a34, .inl (gI (xg x), 27, .inl w88)), (a35, .inl (gI (xg x), 27, .inl v41)), (a36, .inl (gI (xg x), 60, .inl v42)), (a37, .inl (gI (xg x), 3, .inl v43)), (a38, .inl (gJ (xg x), 1, .inr (.inl w81)))] ++ ZP (xg x) a39 v45) (rest := []) (T := TX9) (c_X9_thrown (xl x) (xg x) a27 a28 a29 a30 a31 a32 v30 v33 v36 a33 a34 a35 a36 a37 w85 v20 v21 v22 w86 v24 h) gL_law_X9_thrown (by rfl) rfl rfl (by decide +kernel) ⟨⟨(Nat.le_of_ble_eq_true rfl), (Nat.le_of_ble_eq_true rfl)⟩, (Nat.le_trans (Nat.le_add_right _ _) hk.1), (Nat.le_trans (Nat.le_add_right _ _) hk.2)⟩ (Nat.le_of_ble_eq_true rfl) rfl rfl (sb_zr (sb_of [27, 0, 1, 2, 3, 4, 5, 6, 7, 8, 9, 10, 11, 12, 13, 14, 15, 16, 17, 18, 19, 20, 21, 22, 23, 24, 25, 26, 28, 29, 30, 31, 32, 33, 34, 35, 36, 37, 38, 39, 40, 41] rfl rfl)) rfl dL_law_593 (fun v X1 hp => ?_)
    obtain ⟨r89, rfl, rfl, h⟩ := hp
    refine xw_X (sb_rz (sb_of [1, 2, 3, 4, 5, 6, 7, 8, 9, 10, 11, 12, 13, 14, 15, 16, 17, 18, 19, 20, 21, 22, 23, 24, 25, 26, 27, 0, 28, 29, 30, 31, 32, 33, 34, 35, 36, 37, 38, 39, 40, 41] rfl rfl)) (show ww x (W_L_law (xg x) a0 a1 a2 a3 a4 a5 a6 a7 a8 a9 a10 a11 a12 a13 a14 a15 a16 a17 a18 a19 a20 a21 a22 a23 a24 a25 a26 a27 a28 a29 a30 a31 a32 a33 a34 a35 a36 a37 a38 a39 ab v0 v1 w78 w79 w80 v5 v6 v7 v8 v9 v10 v11 v12 v13 v14 v15 v16 v17 v18 w85 v20 v21 v22 w86 v24 v25 v26 v27 v28 v29 v30 v31 v32 v33 v34 v35 v36 v37 v38 w87 w88 v41 v42 v43 w81 v46 v47 ++ ZP (xg x) a39 v45) [(6, .int r84), (5, .int r77), (0, .ref ab), (1, .ref a0), (2, .ref a27), (3, .ref a38), (4, .int z4)] (k0 + 1) (n0 + 6) 596 [.int r89] from ?_)
    refine xw_iload hf (pc := 596) dL_law_596 1 rfl ?_
    refine xw_icmp_eq hf (pc := 598) dL_law_598 (tgt := 603) rfl ⟨fun c => ?_, fun c => ?_⟩
    · have h := h.1 c
      refine xw_iload hf (pc := 603) dL_law_603 1 rfl ?_
      refine xw_if_ne hf (pc := 605) dL_law_605 (c := r77 = 0) Iff.rfl (tgt := 620) rfl ⟨fun c => ?_, fun c => ?_⟩
      · have h := h.1 c
        refine xw_aload_n hf (pc := 608) dL_law_608 rfl 5 rfl ?_
        refine xw_iconst hf (pc := 609) dL_law_609 (v := 0) (by decide) ?_
        refine xw_lald hf (pc := 610) dL_law_610 41 rfl h.1 ?_
        have h := h.2
        refine xw_iload hf (pc := 611) dL_law_611 0 rfl ?_
        refine xw_i2l hf (pc := 613) dL_law_613 ?_
        refine xw_lcmp hf (pc := 614) dL_law_614 ?_
        refine xw_if_eq hf (pc := 615) dL_law_615 (c := (w81 (0 : Int32).toNatClampNeg) = r84.toInt64) (lc_eq _ _) (tgt := 620) rfl ⟨fun c => ?_, fun c => ?_⟩
        · have h := h.1 c
          refine xw_goto hf (pc := 620) dL_law_620 (tgt := 2681) rfl ?_
          refine xw_L [2, 3, 4, 5, 6] rfl ?_
          exact hK2681 _ _ _ _ hk _ _ _ _ _ _ _ _ h
        · have h := h.2 c
          refine xw_iconst hf (pc := 618) dL_law_618 (v := 0) (by decide) ?_
          exact h.elim
      · have h := h.2 c
        refine xw_goto hf (pc := 620) dL_law_620 (tgt := 2681) rfl ?_
        refine xw_L [2, 3, 4, 5, 6] rfl ?_
        exact hK2681 _ _ _ _ hk _ _ _ _ _ _ _ _ h
    · have h := h.2 c
      refine xw_iconst hf (pc := 601) dL_law_601 (v := 0) (by decide) ?_
      exact h.elim
set_option maxHeartbeats 4000000 in
set_option maxRecDepth 100000 in
theorem w_L_law_L623 {x : Cx} {mc ms : Nat} (hf : fx x (rm_L_law) RL cL_law wsL_law) (hn : xn x = 8) {k0 n0 rc rs : Nat} (hk : k0 + rc ≤ (rm_L_law).cells ∧ n0 + rs ≤ (rm_L_law).slots) (a0 a1 a2 a3 a4 a5 a6 a7 a8 a9 a10 a11 a12 a13 a14 a15 a16 a17 a18 a19 a20 a21 a22 a23 a24 a25 a26 a27 a28 a29 a30 a31 a32 a33 a34 a35 a36 a37 a38 a39 ab : Nat) (z4 : Int32) (v0 : Int32) (v1 : Nat → Int64) (v20 : Int32) (v21 : Int32) (v22 : Int32) (v24 : Int32) (v25 : Nat → Int64) (v46 : Nat) (v47 : Nat → Int32) (v5 : Nat → Int32) (v6 : Nat → Int32) (v7 : Nat → Int32) (v8 : Int32) (v9 : Nat → Int32) (v10 : Nat → Int32) (v11 : Int32) (v12 : Int32) (v13 : Nat → Int32) (v14 : Int32) (v15 : Nat → Int64) (v16 : Int32) (v17 : Nat → Int64) (v18 : Nat → Int32) (v26 : Nat → Int32) (v27 : Nat → Int32) (v28 : Nat → Int32) (v29 : Nat → Int32) (v30 : Nat) (v31 : Nat) (v32 : Nat → Int64) (v33 : Nat) (v34 : Nat) (v35 : Nat → Int32) (v36 : Nat) (v37 : Nat) (v38 : Nat → Int32) (v41 : Nat → Int32) (v42 : Nat → Int32) (v43 : Nat → Int32) (v45 : ZL) {K2681 : Nat → Nat → Int32 → (Nat → Int64) → (Nat → Int32) → Int32 → Int32 → (Nat → Int32) → (Nat → Int32) → (Nat → Int64) → Prop} (hst : (xl x).stackTraces = false) (hX : sX x ab v46 v47)
    (n : Nat) (v2 : Int32) (v3 : Nat → Int64) (v4 : Nat → Int32) (v19 : Int32) (v23 : Int32) (v39 : Nat → Int32) (v40 : Nat → Int32) (v44 : Nat → Int64) (h : P_L_law_L623 z4 v0 v1 v20 v21 v22 v24 v25 v46 v47 K2681 n rc rs v2 v3 v4 v19 v23 v39 v40 v44)
    (hK2681 : ∀ (k0 n0 rc rs : Nat), k0 + rc ≤ (rm_L_law).cells ∧ n0 + rs ≤ (rm_L_law).slots → ∀ (uv2 : Int32), ∀ (uv3 : Nat → Int64), ∀ (uv4 : Nat → Int32), ∀ (uv19 : Int32), ∀ (uv23 : Int32), ∀ (uv39 : Nat → Int32), ∀ (uv40 : Nat → Int32), ∀ (uv44 : Nat → Int64), K2681 rc rs uv2 uv3 uv4 uv19 uv23 uv39 uv40 uv44 → ww x (W_L_law (xg x) a0 a1 a2 a3 a4 a5 a6 a7 a8 a9 a10 a11 a12 a13 a14 a15 a16 a17 a18 a19 a20 a21 a22 a23 a24 a25 a26 a27 a28 a29 a30 a31 a32 a33 a34 a35 a36 a37 a38 a39 ab v0 v1 uv2 uv3 uv4 v5 v6 v7 v8 v9 v10 v11 v12 v13 v14 v15 v16 v17 v18 uv19 v20 v21 v22 uv23 v24 v25 v26 v27 v28 v29 v30 v31 v32 v33 v34 v35 v36 v37 v38 uv39 uv40 v41 v42 v43 uv44 v46 v47 ++ ZP (xg x) a39 v45) [(0, .ref ab), (1, .ref a0), (2, .ref a27), (3, .ref a38), (4, .int z4)] k0 n0 2681 []) :
    ww x (W_L_law (xg x) a0 a1 a2 a3 a4 a5 a6 a7 a8 a9 a10 a11 a12 a13 a14 a15 a16 a17 a18 a19 a20 a21 a22 a23 a24 a25 a26 a27 a28 a29 a30 a31 a32 a33 a34 a35 a36 a37 a38 a39 ab v0 v1 v2 v3 v4 v5 v6 v7 v8 v9 v10 v11 v12 v13 v14 v15 v16 v17 v18 v19 v20 v21 v22 v23 v24 v25 v26 v27 v28 v29 v30 v31 v32 v33 v34 v35 v36 v37 v38 v39 v40 v41 v42 v43 v44 v46 v47 ++ ZP (xg x) a39 v45) [(0, .ref ab), (1, .ref a0), (2, .ref a27), (3, .ref a38), (4, .int z4)] k0 n0 623 [] := by
  induction n generalizing k0 n0 rc rs v2 v3 v4 v19 v23 v39 v40 v44 with
  | zero => exact h.elim
  | succ n ih =>
    unfold P_L_law_L623 at h
    refine xw_aload_n hf (pc := 623) dL_law_623 rfl 1 rfl ?_
    refine xw_aload_n hf (pc := 624) dL_law_624 rfl 0 rfl ?_
    refine xw_iload hf (pc := 625) dL_law_625 4 rfl ?_
    refine xw_iconst hf (pc := 627) dL_law_627 (v := 1) (by decide) ?_
    refine xw_iadd hf (pc := 628) dL_law_628 ?_
    refine xw_sald hf hX dL_law_629 h.1 ?_
    have h := h.2
    refine xw_i2l hf (pc := 630) dL_law_630 ?_
    refine xw_bipush hf (pc := 631) dL_law_631 (v := 32) (by decide) ?_
    refine xw_lshl hf (pc := 633) dL_law_633 ?_
    refine xw_aload_n hf (pc := 634) dL_law_634 rfl 0 rfl ?_
    refine xw_iload hf (pc := 635) dL_law_635 4 rfl ?_
    refine xw_iconst hf (pc := 637) dL_law_637 (v := 2) (by decide) ?_
    refine xw_iadd hf (pc := 638) dL_law_638 ?_
    refine xw_sald hf hX dL_law_639 h.1 ?_
    have h := h.2
    refine xw_i2l hf (pc := 640) dL_law_640 ?_
    refine xw_ldc2 hf (pc := 641) dL_law_641 mw_L_law_0 ?_
    refine xw_land hf (pc := 644) dL_law_644 ?_
    refine xw_lor hf (pc := 645) dL_law_645 ?_
    refine xw_aload_n hf (pc := 646) dL_law_646 rfl 0 rfl ?_
    refine xw_iload hf (pc := 647) dL_law_647 4 rfl ?_
    refine xw_iconst hf (pc := 649) dL_law_649 (v := 3) (by decide) ?_
    refine xw_iadd hf (pc := 650) dL_law_650 ?_
    refine xw_sald hf hX dL_law_651 h.1 ?_
    have h := h.2
    refine xw_aload_n hf (pc := 652) dL_law_652 rfl 3 rfl ?_
    obtain ⟨mc107, ms108, ⟨hb1, hb2⟩, h⟩ := h
    refine xw_callSW hf (pc := 653) (nA := 4) (Xr := [(a8, .inr (6, [.ref a9, .ref a11, .ref a12])), (a9, .inr (3, [.ref a10])), (a10, .inl (gI (xg x), 32, .inl v5)), (a11, .inl (gI (xg x), 32, .inl v6)), (a12, .inl (gI (xg x), 32, .inl v7)), (a13, .inr (1, [.ref a39, .ref a14, .ref a16, .int v8])), (a14, .inr (3, [.ref a15])), (a15, .inl (gI (xg x), 32, .inl v9)), (a16, .inr (3, [.ref a17])), (a17, .inl (gI (xg x), 32, .inl v10)), (a18, .inr (4, [.ref a19, .ref a21, .ref a23, .int v11, .int v12])), (a19, .inr (3, [.ref a20])), (a20, .inl (gI (xg x), 32, .inl v13)), (a21, .inr (7, [.ref a22, .int v14])), (a22, .inl (gJ (xg x), 60, .inr (.inl v15))), (a23, .inr (7, [.ref a24, .int v16])), (a24, .inl (gJ (xg x), 60, .inr (.inl v17))), (a25, .inr (3, [.ref a26])), (a26, .inl (gI (xg x), 32, .inl v18)), (a27, .inr (9, [.int v19, .ref a28, .int v20, .ref a29, .ref a30, .ref a31, .ref a32, .ref v30, .ref v33, .ref v36, .int v21, .int v22, .ref a33, .int v23, .ref a34, .ref a35, .ref a36, .ref a37, .int v24])), (a28, .inl (gJ (xg x), 60, .inr (.inl v25))), (a29, .inl (gI (xg x), 27, .inl v26)), (a30, .inl (gI (xg x), 27, .inl v27)), (a31, .inl (gI (xg x), 27, .inl v28)), (a32, .inl (gI (xg x), 27, .inl v29)), (v30, .inl (gJ (xg x), v31, .inr (.inl v32))), (v33, .inl (gI (xg x), v34, .inl v35)), (v36, .inl (gZ (xg x), v37, .inl v38)), (a33, .inl (gI (xg x), 12, .inl v39)), (a34, .inl (gI (xg x), 27, .inl v40)), (a35, .inl (gI (xg x), 27, .inl v41)), (a36, .inl (gI (xg x), 60, .inl v42)), (a37, .inl (gI (xg x), 3, .inl v43))] ++ ZP (xg x) a39 v45) (rest := []) (c_L_anagramAt (xl x) (xg x) hst a0 a1 a2 a3 a4 a5 a6 a7 a38 a8 a13 a18 a25 v0 v1 v2 v3 v4 v44 ((((v47 (z4 + 1).toNatClampNeg).toInt64) <<< ((32 : Int32).toInt64 &&& 63)) ||| (((v47 (z4 + 2).toNatClampNeg).toInt64) &&& 4294967295)) (v47 (z4 + 3).toNatClampNeg) h) gL_law_L_anagramAt (by rfl) rfl (by decide +kernel) ⟨⟨(Nat.le_of_ble_eq_true rfl), (Nat.le_of_ble_eq_true rfl)⟩, (Nat.le_trans (show k0 + 2 ≤ k0 + rc by omega) hk.1), (Nat.le_trans (show n0 + 12 ≤ n0 + rs by omega) hk.2)⟩ (Nat.le_of_ble_eq_true rfl) (sb_zr (sb_of [0, 1, 2, 3, 4, 5, 6, 7, 41, 8, 9, 10, 11, 12, 13, 14, 15, 16, 17, 18, 19, 20, 21, 22, 23, 24, 25, 26, 27, 28, 29, 30, 31, 32, 33, 34, 35, 36, 37, 38, 39, 40] rfl rfl)) rfl dL_law_653 (fun v X1 hp => ?_)
    obtain ⟨r102, w103, w104, w105, w106, rfl, rfl, h⟩ := hp
    have hk : k0 + 2 + mc107 ≤ (rm_L_law).cells ∧ n0 + 12 + ms108 ≤ (rm_L_law).slots := ⟨Nat.le_trans (show k0 + 2 + mc107 ≤ k0 + rc by omega) hk.1, Nat.le_trans (show n0 + 12 + ms108 ≤ n0 + rs by omega) hk.2⟩
    refine xw_X (sb_rz (sb_of [0, 1, 2, 3, 4, 5, 6, 7, 9, 10, 11, 12, 13, 14, 15, 16, 17, 18, 19, 20, 21, 22, 23, 24, 25, 26, 27, 28, 29, 30, 31, 32, 33, 34, 35, 36, 37, 38, 39, 40, 41, 8] rfl rfl)) (show ww x (W_L_law (xg x) a0 a1 a2 a3 a4 a5 a6 a7 a8 a9 a10 a11 a12 a13 a14 a15 a16 a17 a18 a19 a20 a21 a22 a23 a24 a25 a26 a27 a28 a29 a30 a31 a32 a33 a34 a35 a36 a37 a38 a39 ab v0 v1 w103 w104 w105 v5 v6 v7 v8 v9 v10 v11 v12 v13 v14 v15 v16 v17 v18 v19 v20 v21 v22 v23 v24 v25 v26 v27 v28 v29 v30 v31 v32 v33 v34 v35 v36 v37 v38 v39 v40 v41 v42 v43 w106 v46 v47 ++ ZP (xg x) a39 v45) [(0, .ref ab), (1, .ref a0), (2, .ref a27), (3, .ref a38), (4, .int z4)] (k0 + 2) (n0 + 12) 656 [.int r102] from ?_)
    refine xw_istore hf (pc := 656) dL_law_656 [(5, .int r102), (0, .ref ab), (1, .ref a0), (2, .ref a27), (3, .ref a38), (4, .int z4)] hn (by decide) rfl ?_
    refine xw_aload_n hf (pc := 658) dL_law_658 rfl 3 rfl ?_
    refine xw_aload_n hf (pc := 659) dL_law_659 rfl 1 rfl ?_
    refine xw_iload hf (pc := 660) dL_law_660 5 rfl ?_
    refine xw_iconst hf (pc := 662) dL_law_662 (v := 1) (by decide) ?_
    refine xw_iadd hf (pc := 663) dL_law_663 ?_
    refine xw_sald hf hX dL_law_664 h.1 ?_
    have h := h.2
    refine xw_i2l hf (pc := 665) dL_law_665 ?_
    refine xw_bipush hf (pc := 666) dL_law_666 (v := 32) (by decide) ?_
    refine xw_lshl hf (pc := 668) dL_law_668 ?_
    refine xw_aload_n hf (pc := 669) dL_law_669 rfl 1 rfl ?_
    refine xw_iload hf (pc := 670) dL_law_670 5 rfl ?_
    refine xw_iconst hf (pc := 672) dL_law_672 (v := 2) (by decide) ?_
    refine xw_iadd hf (pc := 673) dL_law_673 ?_
    refine xw_sald hf hX dL_law_674 h.1 ?_
    have h := h.2
    refine xw_i2l hf (pc := 675) dL_law_675 ?_
    refine xw_ldc2 hf (pc := 676) dL_law_676 mw_L_law_0 ?_
    refine xw_land hf (pc := 679) dL_law_679 ?_
    refine xw_lor hf (pc := 680) dL_law_680 ?_
    refine xw_aload_n hf (pc := 681) dL_law_681 rfl 1 rfl ?_
    refine xw_iload hf (pc := 682) dL_law_682 5 rfl ?_
    refine xw_iconst hf (pc := 684) dL_law_684 (v := 3) (by decide) ?_
    refine xw_iadd hf (pc := 685) dL_law_685 ?_
    refine xw_sald hf hX dL_law_686 h.1 ?_
    have h := h.2
    refine xw_callV hf (pc := 687) (nA := 2) (Xr := [(a0, .inr (8, [.ref a1, .ref a8, .ref a13, .ref a18, .ref a25])), (a1, .inr (2, [.ref a2, .ref a4, .ref a6])), (a2, .inr (7, [.ref a3, .int v0])), (a3, .inl (gJ (xg x), 60, .inr (.inl v1))), (a4, .inr (7, [.ref a5, .int w103])), (a5, .inl (gJ (xg x), 60, .inr (.inl w104))), (a6, .inr (3, [.ref a7])), (a7, .inl (gI (xg x), 32, .inl w105)), (a8, .inr (6, [.ref a9, .ref a11, .ref a12])), (a9, .inr (3, [.ref a10])), (a10, .inl (gI (xg x), 32, .inl v5)), (a11, .inl (gI (xg x), 32, .inl v6)), (a12, .inl (gI (xg x), 32, .inl v7)), (a13, .inr (1, [.ref a39, .ref a14, .ref a16, .int v8])), (a14, .inr (3, [.ref a15])), (a15, .inl (gI (xg x), 32, .inl v9)), (a16, .inr (3, [.ref a17])), (a17, .inl (gI (xg x), 32, .inl v10)), (a18, .inr (4, [.ref a19, .ref a21, .ref a23, .int v11, .int v12])), (a19, .inr (3, [.ref a20])), (a20, .inl (gI (xg x), 32, .inl v13)), (a21, .inr (7, [.ref a22, .int v14])), (a22, .inl (gJ (xg x), 60, .inr (.inl v15))), (a23, .inr (7, [.ref a24, .int v16])), (a24, .inl (gJ (xg x), 60, .inr (.inl v17))), (a25, .inr (3, [.ref a26])), (a26, .inl (gI (xg x), 32, .inl v18)), (a29, .inl (gI (xg x), 27, .inl v26)), (a30, .inl (gI (xg x), 27, .inl v27)), (a31, .inl (gI (xg x), 27, .inl v28)), (a32, .inl (gI (xg x), 27, .inl v29)), (v30, .inl (gJ (xg x), v31, .inr (.inl v32))), (v33, .inl (gI (xg x), v34, .inl v35)), (v36, .inl (gZ (xg x), v37, .inl v38)), (a35, .inl (gI (xg x), 27, .inl v41)), (a36, .inl (gI (xg x), 60, .inl v42)), (a37, .inl (gI (xg x), 3, .inl v43)), (a38, .inl (gJ (xg x), 1, .inr (.inl w106)))] ++ ZP (xg x) a39 v45) (rest := []) (T := TX9) (c_X9_anagramAt (xl x) (xg x) a27 a28 a33 a34 a29 a30 a31 a32 v30 v33 v36 a35 a36 a37 v19 v20 v21 v22 v23 v24 v25 v39 v40 ((((v47 (z4 + 1).toNatClampNeg).toInt64) <<< ((32 : Int32).toInt64 &&& 63)) ||| (((v47 (z4 + 2).toNatClampNeg).toInt64) &&& 4294967295)) (v47 (z4 + 3).toNatClampNeg) h) gL_law_X9_anagramAt (by rfl) rfl rfl (by decide +kernel) ⟨⟨(Nat.le_of_ble_eq_true rfl), (Nat.le_of_ble_eq_true rfl)⟩, (Nat.le_trans (Nat.le_add_right _ _) hk.1), (Nat.le_trans (Nat.le_add_right _ _) hk.2)⟩ (Nat.le_of_ble_eq_true rfl) rfl rfl (sb_zr (sb_of [27, 28, 36, 37, 0, 1, 2, 3, 4, 5, 6, 7, 8, 9, 10, 11, 12, 13, 14, 15, 16, 17, 18, 19, 20, 21, 22, 23, 24, 25, 26, 29, 30, 31, 32, 33, 34, 35, 38, 39, 40, 41] rfl rfl)) rfl dL_law_687 (fun v X1 hp => ?_)
    obtain ⟨r109, w110, w111, w112, w113, rfl, rfl, h⟩ := hp
    refine xw_X (sb_rz (sb_of [4, 5, 6, 7, 8, 9, 10, 11, 12, 13, 14, 15, 16, 17, 18, 19, 20, 21, 22, 23, 24, 25, 26, 27, 28, 29, 30, 0, 1, 31, 32, 33, 34, 35, 36, 37, 2, 3, 38, 39, 40, 41] rfl rfl)) (show ww x (W_L_law (xg x) a0 a1 a2 a3 a4 a5 a6 a7 a8 a9 a10 a11 a12 a13 a14 a15 a16 a17 a18 a19 a20 a21 a22 a23 a24 a25 a26 a27 a28 a29 a30 a31 a32 a33 a34 a35 a36 a37 a38 a39 ab v0 v1 w103 w104 w105 v5 v6 v7 v8 v9 v10 v11 v12 v13 v14 v15 v16 v17 v18 w110 v20 v21 v22 w111 v24 v25 v26 v27 v28 v29 v30 v31 v32 v33 v34 v35 v36 v37 v38 w112 w113 v41 v42 v43 w106 v46 v47 ++ ZP (xg x) a39 v45) [(5, .int r102), (0, .ref ab), (1, .ref a0), (2, .ref a27), (3, .ref a38), (4, .int z4)] (k0 + 2) (n0 + 12) 690 [.long r109] from ?_)
    refine xw_lstore hf (pc := 690) dL_law_690 [(6, .long r109), (5, .int r102), (0, .ref ab), (1, .ref a0), (2, .ref a27), (3, .ref a38), (4, .int z4)] hn (by decide) rfl ?_
    refine xw_aload_n hf (pc := 692) dL_law_692 rfl 4 rfl ?_
    refine xw_callV hf (pc := 693) (nA := 0) (Xr := [(a0, .inr (8, [.ref a1, .ref a8, .ref a13, .ref a18, .ref a25])), (a1, .inr (2, [.ref a2, .ref a4, .ref a6])), (a2, .inr (7, [.ref a3, .int v0])), (a3, .inl (gJ (xg x), 60, .inr (.inl v1))), (a4, .inr (7, [.ref a5, .int w103])), (a5, .inl (gJ (xg x), 60, .inr (.inl w104))), (a6, .inr (3, [.ref a7])), (a7, .inl (gI (xg x), 32, .inl w105)), (a8, .inr (6, [.ref a9, .ref a11, .ref a12])), (a9, .inr (3, [.ref a10])), (a10, .inl (gI (xg x), 32, .inl v5)), (a11, .inl (gI (xg x), 32, .inl v6)), (a12, .inl (gI (xg x), 32, .inl v7)), (a13, .inr (1, [.ref a39, .ref a14, .ref a16, .int v8])), (a14, .inr (3, [.ref a15])), (a15, .inl (gI (xg x), 32, .inl v9)), (a16, .inr (3, [.ref a17])), (a17, .inl (gI (xg x), 32, .inl v10)), (a18, .inr (4, [.ref a19, .ref a21, .ref a23, .int v11, .int v12])), (a19, .inr (3, [.ref a20])), (a20, .inl (gI (xg x), 32, .inl v13)), (a21, .inr (7, [.ref a22, .int v14])), (a22, .inl (gJ (xg x), 60, .inr (.inl v15))), (a23, .inr (7, [.ref a24, .int v16])), (a24, .inl (gJ (xg x), 60, .inr (.inl v17))), (a25, .inr (3, [.ref a26])), (a26, .inl (gI (xg x), 32, .inl v18)), (a28, .inl (gJ (xg x), 60, .inr (.inl v25))), (a29, .inl (gI (xg x), 27, .inl v26)), (a30, .inl (gI (xg x), 27, .inl v27)), (a31, .inl (gI (xg x), 27, .inl v28)), (a32, .inl (gI (xg x), 27, .inl v29)), (v30, .inl (gJ (xg x), v31, .inr (.inl v32))), (v33, .inl (gI (xg x), v34, .inl v35)), (v36, .inl (gZ (xg x), v37, .inl v38)), (a33, .inl (gI (xg x), 12, .inl w112)), (a34, .inl (gI (xg x), 27, .inl w113)), (a35, .inl (gI (xg x), 27, .inl v41)), (a36, .inl (gI (xg x), 60, .inl v42)), (a37, .inl (gI (xg x), 3, .inl v43)), (a38, .inl (gJ (xg x), 1, .inr (.inl w106)))] ++ ZP (xg x) a39 v45) (rest := []) (T := TX9) (c_X9_thrown (xl x) (xg x) a27 a28 a29 a30 a31 a32 v30 v33 v36 a33 a34 a35 a36 a37 w110 v20 v21 v22 w111 v24 h) gL_law_X9_thrown (by rfl) rfl rfl (by decide +kernel) ⟨⟨(Nat.le_of_ble_eq_true rfl), (Nat.le_of_ble_eq_true rfl)⟩, (Nat.le_trans (Nat.le_add_right _ _) hk.1), (Nat.le_trans (Nat.le_add_right _ _) hk.2)⟩ (Nat.le_of_ble_eq_true rfl) rfl rfl (sb_zr (sb_of [27, 0, 1, 2, 3, 4, 5, 6, 7, 8, 9, 10, 11, 12, 13, 14, 15, 16, 17, 18, 19, 20, 21, 22, 23, 24, 25, 26, 28, 29, 30, 31, 32, 33, 34, 35, 36, 37, 38, 39, 40, 41] rfl rfl)) rfl dL_law_693 (fun v X1 hp => ?_)
    obtain ⟨r114, rfl, rfl, h⟩ := hp
    refine xw_X (sb_rz (sb_of [1, 2, 3, 4, 5, 6, 7, 8, 9, 10, 11, 12, 13, 14, 15, 16, 17, 18, 19, 20, 21, 22, 23, 24, 25, 26, 27, 0, 28, 29, 30, 31, 32, 33, 34, 35, 36, 37, 38, 39, 40, 41] rfl rfl)) (show ww x (W_L_law (xg x) a0 a1 a2 a3 a4 a5 a6 a7 a8 a9 a10 a11 a12 a13 a14 a15 a16 a17 a18 a19 a20 a21 a22 a23 a24 a25 a26 a27 a28 a29 a30 a31 a32 a33 a34 a35 a36 a37 a38 a39 ab v0 v1 w103 w104 w105 v5 v6 v7 v8 v9 v10 v11 v12 v13 v14 v15 v16 v17 v18 w110 v20 v21 v22 w111 v24 v25 v26 v27 v28 v29 v30 v31 v32 v33 v34 v35 v36 v37 v38 w112 w113 v41 v42 v43 w106 v46 v47 ++ ZP (xg x) a39 v45) [(6, .long r109), (5, .int r102), (0, .ref ab), (1, .ref a0), (2, .ref a27), (3, .ref a38), (4, .int z4)] (k0 + 2) (n0 + 12) 696 [.int r114] from ?_)
    refine xw_iload hf (pc := 696) dL_law_696 1 rfl ?_
    refine xw_icmp_eq hf (pc := 698) dL_law_698 (tgt := 703) rfl ⟨fun c => ?_, fun c => ?_⟩
    · have h := h.1 c
      refine xw_iload hf (pc := 703) dL_law_703 1 rfl ?_
      refine xw_if_ne hf (pc := 705) dL_law_705 (c := r102 = 0) Iff.rfl (tgt := 719) rfl ⟨fun c => ?_, fun c => ?_⟩
      · have h := h.1 c
        refine xw_aload_n hf (pc := 708) dL_law_708 rfl 5 rfl ?_
        refine xw_iconst hf (pc := 709) dL_law_709 (v := 0) (by decide) ?_
        refine xw_lald hf (pc := 710) dL_law_710 41 rfl h.1 ?_
        have h := h.2
        refine xw_lload hf (pc := 711) dL_law_711 0 rfl ?_
        refine xw_lcmp hf (pc := 713) dL_law_713 ?_
        refine xw_if_eq hf (pc := 714) dL_law_714 (c := (w106 (0 : Int32).toNatClampNeg) = r109) (lc_eq _ _) (tgt := 719) rfl ⟨fun c => ?_, fun c => ?_⟩
        · have h := h.1 c
          refine xw_goto hf (pc := 719) dL_law_719 (tgt := 2681) rfl ?_
          refine xw_L [2, 3, 4, 5, 6] rfl ?_
          exact hK2681 _ _ _ _ hk _ _ _ _ _ _ _ _ h
        · have h := h.2 c
          refine xw_iconst hf (pc := 717) dL_law_717 (v := 0) (by decide) ?_
          exact h.elim
      · have h := h.2 c
        refine xw_goto hf (pc := 719) dL_law_719 (tgt := 2681) rfl ?_
        refine xw_L [2, 3, 4, 5, 6] rfl ?_
        exact hK2681 _ _ _ _ hk _ _ _ _ _ _ _ _ h
    · have h := h.2 c
      refine xw_iconst hf (pc := 701) dL_law_701 (v := 0) (by decide) ?_
      exact h.elim
set_option maxHeartbeats 4000000 in
set_option maxRecDepth 100000 in
theorem w_L_law_L722 {x : Cx} {mc ms : Nat} (hf : fx x (rm_L_law) RL cL_law wsL_law) (hn : xn x = 8) {k0 n0 rc rs : Nat} (hk : k0 + rc ≤ (rm_L_law).cells ∧ n0 + rs ≤ (rm_L_law).slots) (a0 a1 a2 a3 a4 a5 a6 a7 a8 a9 a10 a11 a12 a13 a14 a15 a16 a17 a18 a19 a20 a21 a22 a23 a24 a25 a26 a27 a28 a29 a30 a31 a32 a33 a34 a35 a36 a37 a38 a39 ab : Nat) (z4 : Int32) (v0 : Int32) (v1 : Nat → Int64) (v20 : Int32) (v21 : Int32) (v22 : Int32) (v24 : Int32) (v25 : Nat → Int64) (v5 : Nat → Int32) (v6 : Nat → Int32) (v7 : Nat → Int32) (v8 : Int32) (v9 : Nat → Int32) (v10 : Nat → Int32) (v11 : Int32) (v12 : Int32) (v13 : Nat → Int32) (v14 : Int32) (v15 : Nat → Int64) (v16 : Int32) (v17 : Nat → Int64) (v18 : Nat → Int32) (v26 : Nat → Int32) (v27 : Nat → Int32) (v28 : Nat → Int32) (v29 : Nat → Int32) (v30 : Nat) (v31 : Nat) (v32 : Nat → Int64) (v33 : Nat) (v34 : Nat) (v35 : Nat → Int32) (v36 : Nat) (v37 : Nat) (v38 : Nat → Int32) (v41 : Nat → Int32) (v42 : Nat → Int32) (v43 : Nat → Int32) (v44 : Nat → Int64) (v45 : ZL) (v46 : Nat) (v47 : Nat → Int32) {K2681 : Nat → Nat → Int32 → (Nat → Int64) → (Nat → Int32) → Int32 → Int32 → (Nat → Int32) → (Nat → Int32) → Prop} (hst : (xl x).stackTraces = false) (hX : sX x ab v46 v47)
    (n : Nat) (v2 : Int32) (v3 : Nat → Int64) (v4 : Nat → Int32) (v19 : Int32) (v23 : Int32) (v39 : Nat → Int32) (v40 : Nat → Int32) (h : P_L_law_L722 z4 v0 v1 v20 v21 v22 v24 v25 K2681 n rc rs v2 v3 v4 v19 v23 v39 v40)
    (hK2681 : ∀ (k0 n0 rc rs : Nat), k0 + rc ≤ (rm_L_law).cells ∧ n0 + rs ≤ (rm_L_law).slots → ∀ (uv2 : Int32), ∀ (uv3 : Nat → Int64), ∀ (uv4 : Nat → Int32), ∀ (uv19 : Int32), ∀ (uv23 : Int32), ∀ (uv39 : Nat → Int32), ∀ (uv40 : Nat → Int32), K2681 rc rs uv2 uv3 uv4 uv19 uv23 uv39 uv40 → ww x (W_L_law (xg x) a0 a1 a2 a3 a4 a5 a6 a7 a8 a9 a10 a11 a12 a13 a14 a15 a16 a17 a18 a19 a20 a21 a22 a23 a24 a25 a26 a27 a28 a29 a30 a31 a32 a33 a34 a35 a36 a37 a38 a39 ab v0 v1 uv2 uv3 uv4 v5 v6 v7 v8 v9 v10 v11 v12 v13 v14 v15 v16 v17 v18 uv19 v20 v21 v22 uv23 v24 v25 v26 v27 v28 v29 v30 v31 v32 v33 v34 v35 v36 v37 v38 uv39 uv40 v41 v42 v43 v44 v46 v47 ++ ZP (xg x) a39 v45) [(0, .ref ab), (1, .ref a0), (2, .ref a27), (3, .ref a38), (4, .int z4)] k0 n0 2681 []) :
    ww x (W_L_law (xg x) a0 a1 a2 a3 a4 a5 a6 a7 a8 a9 a10 a11 a12 a13 a14 a15 a16 a17 a18 a19 a20 a21 a22 a23 a24 a25 a26 a27 a28 a29 a30 a31 a32 a33 a34 a35 a36 a37 a38 a39 ab v0 v1 v2 v3 v4 v5 v6 v7 v8 v9 v10 v11 v12 v13 v14 v15 v16 v17 v18 v19 v20 v21 v22 v23 v24 v25 v26 v27 v28 v29 v30 v31 v32 v33 v34 v35 v36 v37 v38 v39 v40 v41 v42 v43 v44 v46 v47 ++ ZP (xg x) a39 v45) [(0, .ref ab), (1, .ref a0), (2, .ref a27), (3, .ref a38), (4, .int z4)] k0 n0 722 [] := by
  induction n generalizing k0 n0 rc rs v2 v3 v4 v19 v23 v39 v40 with
  | zero => exact h.elim
  | succ n ih =>
    unfold P_L_law_L722 at h
    refine xw_aload_n hf (pc := 722) dL_law_722 rfl 1 rfl ?_
    refine xw_callV hf (pc := 723) (nA := 0) (Xr := [(a8, .inr (6, [.ref a9, .ref a11, .ref a12])), (a9, .inr (3, [.ref a10])), (a10, .inl (gI (xg x), 32, .inl v5)), (a11, .inl (gI (xg x), 32, .inl v6)), (a12, .inl (gI (xg x), 32, .inl v7)), (a13, .inr (1, [.ref a39, .ref a14, .ref a16, .int v8])), (a14, .inr (3, [.ref a15])), (a15, .inl (gI (xg x), 32, .inl v9)), (a16, .inr (3, [.ref a17])), (a17, .inl (gI (xg x), 32, .inl v10)), (a18, .inr (4, [.ref a19, .ref a21, .ref a23, .int v11, .int v12])), (a19, .inr (3, [.ref a20])), (a20, .inl (gI (xg x), 32, .inl v13)), (a21, .inr (7, [.ref a22, .int v14])), (a22, .inl (gJ (xg x), 60, .inr (.inl v15))), (a23, .inr (7, [.ref a24, .int v16])), (a24, .inl (gJ (xg x), 60, .inr (.inl v17))), (a25, .inr (3, [.ref a26])), (a26, .inl (gI (xg x), 32, .inl v18)), (a27, .inr (9, [.int v19, .ref a28, .int v20, .ref a29, .ref a30, .ref a31, .ref a32, .ref v30, .ref v33, .ref v36, .int v21, .int v22, .ref a33, .int v23, .ref a34, .ref a35, .ref a36, .ref a37, .int v24])), (a28, .inl (gJ (xg x), 60, .inr (.inl v25))), (a29, .inl (gI (xg x), 27, .inl v26)), (a30, .inl (gI (xg x), 27, .inl v27)), (a31, .inl (gI (xg x), 27, .inl v28)), (a32, .inl (gI (xg x), 27, .inl v29)), (v30, .inl (gJ (xg x), v31, .inr (.inl v32))), (v33, .inl (gI (xg x), v34, .inl v35)), (v36, .inl (gZ (xg x), v37, .inl v38)), (a33, .inl (gI (xg x), 12, .inl v39)), (a34, .inl (gI (xg x), 27, .inl v40)), (a35, .inl (gI (xg x), 27, .inl v41)), (a36, .inl (gI (xg x), 60, .inl v42)), (a37, .inl (gI (xg x), 3, .inl v43)), (a38, .inl (gJ (xg x), 1, .inr (.inl v44)))] ++ ZP (xg x) a39 v45) (rest := []) (T := TX8) (c_X8_largestAnagramGroup (xl x) (xg x) a0 a1 a2 a3 a4 a5 a6 a7 a8 a13 a18 a25 v0 v1 v2 v3 v4 h) gL_law_X8_largestAnagramGroup (by rfl) rfl rfl (by decide +kernel) ⟨⟨(Nat.le_of_ble_eq_true rfl), (Nat.le_of_ble_eq_true rfl)⟩, (Nat.le_trans (Nat.le_add_right _ _) hk.1), (Nat.le_trans (Nat.le_add_right _ _) hk.2)⟩ (Nat.le_of_ble_eq_true rfl) rfl rfl (sb_zr (sb_of [0, 1, 2, 3, 4, 5, 6, 7, 8, 9, 10, 11, 12, 13, 14, 15, 16, 17, 18, 19, 20, 21, 22, 23, 24, 25, 26, 27, 28, 29, 30, 31, 32, 33, 34, 35, 36, 37, 38, 39, 40, 41] rfl rfl)) rfl dL_law_723 (fun v X1 hp => ?_)
    obtain ⟨r127, w128, w129, w130, rfl, rfl, h⟩ := hp
    refine xw_X (sb_rz (sb_of [0, 1, 2, 3, 4, 5, 6, 7, 8, 9, 10, 11, 12, 13, 14, 15, 16, 17, 18, 19, 20, 21, 22, 23, 24, 25, 26, 27, 28, 29, 30, 31, 32, 33, 34, 35, 36, 37, 38, 39, 40, 41] rfl rfl)) (show ww x (W_L_law (xg x) a0 a1 a2 a3 a4 a5 a6 a7 a8 a9 a10 a11 a12 a13 a14 a15 a16 a17 a18 a19 a20 a21 a22 a23 a24 a25 a26 a27 a28 a29 a30 a31 a32 a33 a34 a35 a36 a37 a38 a39 ab v0 v1 w128 w129 w130 v5 v6 v7 v8 v9 v10 v11 v12 v13 v14 v15 v16 v17 v18 v19 v20 v21 v22 v23 v24 v25 v26 v27 v28 v29 v30 v31 v32 v33 v34 v35 v36 v37 v38 v39 v40 v41 v42 v43 v44 v46 v47 ++ ZP (xg x) a39 v45) [(0, .ref ab), (1, .ref a0), (2, .ref a27), (3, .ref a38), (4, .int z4)] k0 n0 726 [.int r127] from ?_)
    refine xw_aload_n hf (pc := 726) dL_law_726 rfl 2 rfl ?_
    refine xw_callV hf (pc := 727) (nA := 0) (Xr := [(a0, .inr (8, [.ref a1, .ref a8, .ref a13, .ref a18, .ref a25])), (a1, .inr (2, [.ref a2, .ref a4, .ref a6])), (a2, .inr (7, [.ref a3, .int v0])), (a3, .inl (gJ (xg x), 60, .inr (.inl v1))), (a4, .inr (7, [.ref a5, .int w128])), (a5, .inl (gJ (xg x), 60, .inr (.inl w129))), (a6, .inr (3, [.ref a7])), (a7, .inl (gI (xg x), 32, .inl w130)), (a8, .inr (6, [.ref a9, .ref a11, .ref a12])), (a9, .inr (3, [.ref a10])), (a10, .inl (gI (xg x), 32, .inl v5)), (a11, .inl (gI (xg x), 32, .inl v6)), (a12, .inl (gI (xg x), 32, .inl v7)), (a13, .inr (1, [.ref a39, .ref a14, .ref a16, .int v8])), (a14, .inr (3, [.ref a15])), (a15, .inl (gI (xg x), 32, .inl v9)), (a16, .inr (3, [.ref a17])), (a17, .inl (gI (xg x), 32, .inl v10)), (a18, .inr (4, [.ref a19, .ref a21, .ref a23, .int v11, .int v12])), (a19, .inr (3, [.ref a20])), (a20, .inl (gI (xg x), 32, .inl v13)), (a21, .inr (7, [.ref a22, .int v14])), (a22, .inl (gJ (xg x), 60, .inr (.inl v15))), (a23, .inr (7, [.ref a24, .int v16])), (a24, .inl (gJ (xg x), 60, .inr (.inl v17))), (a25, .inr (3, [.ref a26])), (a26, .inl (gI (xg x), 32, .inl v18)), (a29, .inl (gI (xg x), 27, .inl v26)), (a30, .inl (gI (xg x), 27, .inl v27)), (a31, .inl (gI (xg x), 27, .inl v28)), (a32, .inl (gI (xg x), 27, .inl v29)), (v30, .inl (gJ (xg x), v31, .inr (.inl v32))), (v33, .inl (gI (xg x), v34, .inl v35)), (v36, .inl (gZ (xg x), v37, .inl v38)), (a35, .inl (gI (xg x), 27, .inl v41)), (a36, .inl (gI (xg x), 60, .inl v42)), (a37, .inl (gI (xg x), 3, .inl v43)), (a38, .inl (gJ (xg x), 1, .inr (.inl v44)))] ++ ZP (xg x) a39 v45) (rest := [.int r127]) (T := TX9) (c_X9_largestAnagramGroup (xl x) (xg x) a27 a28 a33 a34 a29 a30 a31 a32 v30 v33 v36 a35 a36 a37 v19 v20 v21 v22 v23 v24 v25 v39 v40 h) gL_law_X9_largestAnagramGroup (by rfl) rfl rfl (by decide +kernel) ⟨⟨(Nat.le_of_ble_eq_true rfl), (Nat.le_of_ble_eq_true rfl)⟩, (Nat.le_trans (Nat.le_add_right _ _) hk.1), (Nat.le_trans (Nat.le_add_right _ _) hk.2)⟩ (Nat.le_of_ble_eq_true rfl) rfl rfl (sb_zr (sb_of [27, 28, 36, 37, 0, 1, 2, 3, 4, 5, 6, 7, 8, 9, 10, 11, 12, 13, 14, 15, 16, 17, 18, 19, 20, 21, 22, 23, 24, 25, 26, 29, 30, 31, 32, 33, 34, 35, 38, 39, 40, 41] rfl rfl)) rfl dL_law_727 (fun v X1 hp => ?_)
    obtain ⟨r131, w132, w133, w134, w135, rfl, rfl, h⟩ := hp
    refine xw_X (sb_rz (sb_of [4, 5, 6, 7, 8, 9, 10, 11, 12, 13, 14, 15, 16, 17, 18, 19, 20, 21, 22, 23, 24, 25, 26, 27, 28, 29, 30, 0, 1, 31, 32, 33, 34, 35, 36, 37, 2, 3, 38, 39, 40, 41] rfl rfl)) (show ww x (W_L_law (xg x) a0 a1 a2 a3 a4 a5 a6 a7 a8 a9 a10 a11 a12 a13 a14 a15 a16 a17 a18 a19 a20 a21 a22 a23 a24 a25 a26 a27 a28 a29 a30 a31 a32 a33 a34 a35 a36 a37 a38 a39 ab v0 v1 w128 w129 w130 v5 v6 v7 v8 v9 v10 v11 v12 v13 v14 v15 v16 v17 v18 w132 v20 v21 v22 w133 v24 v25 v26 v27 v28 v29 v30 v31 v32 v33 v34 v35 v36 v37 v38 w134 w135 v41 v42 v43 v44 v46 v47 ++ ZP (xg x) a39 v45) [(0, .ref ab), (1, .ref a0), (2, .ref a27), (3, .ref a38), (4, .int z4)] k0 n0 730 [.int r131, .int r127] from ?_)
    refine xw_icmp_eq hf (pc := 730) dL_law_730 (tgt := 2681) rfl ⟨fun c => ?_, fun c => ?_⟩
    · have h := h.1 c
      refine xw_L [0, 1, 2, 3, 4] rfl ?_
      exact hK2681 _ _ _ _ hk _ _ _ _ _ _ _ h
    · have h := h.2 c
      refine xw_iconst hf (pc := 733) dL_law_733 (v := 0) (by decide) ?_
      exact h.elim
set_option maxHeartbeats 4000000 in
set_option maxRecDepth 100000 in
theorem w_L_law_L735 {x : Cx} {mc ms : Nat} (hf : fx x (rm_L_law) RL cL_law wsL_law) (hn : xn x = 8) {k0 n0 rc rs : Nat} (hk : k0 + rc ≤ (rm_L_law).cells ∧ n0 + rs ≤ (rm_L_law).slots) (a0 a1 a2 a3 a4 a5 a6 a7 a8 a9 a10 a11 a12 a13 a14 a15 a16 a17 a18 a19 a20 a21 a22 a23 a24 a25 a26 a27 a28 a29 a30 a31 a32 a33 a34 a35 a36 a37 a38 a39 ab : Nat) (z4 : Int32) (v0 : Int32) (v1 : Nat → Int64) (v20 : Int32) (v21 : Int32) (v22 : Int32) (v24 : Int32) (v25 : Nat → Int64) (v46 : Nat) (v47 : Nat → Int32) (v5 : Nat → Int32) (v6 : Nat → Int32) (v7 : Nat → Int32) (v8 : Int32) (v9 : Nat → Int32) (v10 : Nat → Int32) (v11 : Int32) (v12 : Int32) (v13 : Nat → Int32) (v14 : Int32) (v15 : Nat → Int64) (v16 : Int32) (v17 : Nat → Int64) (v18 : Nat → Int32) (v26 : Nat → Int32) (v27 : Nat → Int32) (v28 : Nat → Int32) (v29 : Nat → Int32) (v30 : Nat) (v31 : Nat) (v32 : Nat → Int64) (v33 : Nat) (v34 : Nat) (v35 : Nat → Int32) (v36 : Nat) (v37 : Nat) (v38 : Nat → Int32) (v41 : Nat → Int32) (v42 : Nat → Int32) (v43 : Nat → Int32) (v45 : ZL) {K2681 : Nat → Nat → Int32 → (Nat → Int64) → (Nat → Int32) → Int32 → Int32 → (Nat → Int32) → (Nat → Int32) → (Nat → Int64) → Prop} (hst : (xl x).stackTraces = false) (hX : sX x ab v46 v47)
    (n : Nat) (v2 : Int32) (v3 : Nat → Int64) (v4 : Nat → Int32) (v19 : Int32) (v23 : Int32) (v39 : Nat → Int32) (v40 : Nat → Int32) (v44 : Nat → Int64) (h : P_L_law_L735 z4 v0 v1 v20 v21 v22 v24 v25 v46 v47 K2681 n rc rs v2 v3 v4 v19 v23 v39 v40 v44)
    (hK2681 : ∀ (k0 n0 rc rs : Nat), k0 + rc ≤ (rm_L_law).cells ∧ n0 + rs ≤ (rm_L_law).slots → ∀ (uv2 : Int32), ∀ (uv3 : Nat → Int64), ∀ (uv4 : Nat → Int32), ∀ (uv19 : Int32), ∀ (uv23 : Int32), ∀ (uv39 : Nat → Int32), ∀ (uv40 : Nat → Int32), ∀ (uv44 : Nat → Int64), K2681 rc rs uv2 uv3 uv4 uv19 uv23 uv39 uv40 uv44 → ww x (W_L_law (xg x) a0 a1 a2 a3 a4 a5 a6 a7 a8 a9 a10 a11 a12 a13 a14 a15 a16 a17 a18 a19 a20 a21 a22 a23 a24 a25 a26 a27 a28 a29 a30 a31 a32 a33 a34 a35 a36 a37 a38 a39 ab v0 v1 uv2 uv3 uv4 v5 v6 v7 v8 v9 v10 v11 v12 v13 v14 v15 v16 v17 v18 uv19 v20 v21 v22 uv23 v24 v25 v26 v27 v28 v29 v30 v31 v32 v33 v34 v35 v36 v37 v38 uv39 uv40 v41 v42 v43 uv44 v46 v47 ++ ZP (xg x) a39 v45) [(0, .ref ab), (1, .ref a0), (2, .ref a27), (3, .ref a38), (4, .int z4)] k0 n0 2681 []) :
    ww x (W_L_law (xg x) a0 a1 a2 a3 a4 a5 a6 a7 a8 a9 a10 a11 a12 a13 a14 a15 a16 a17 a18 a19 a20 a21 a22 a23 a24 a25 a26 a27 a28 a29 a30 a31 a32 a33 a34 a35 a36 a37 a38 a39 ab v0 v1 v2 v3 v4 v5 v6 v7 v8 v9 v10 v11 v12 v13 v14 v15 v16 v17 v18 v19 v20 v21 v22 v23 v24 v25 v26 v27 v28 v29 v30 v31 v32 v33 v34 v35 v36 v37 v38 v39 v40 v41 v42 v43 v44 v46 v47 ++ ZP (xg x) a39 v45) [(0, .ref ab), (1, .ref a0), (2, .ref a27), (3, .ref a38), (4, .int z4)] k0 n0 735 [] := by
  induction n generalizing k0 n0 rc rs v2 v3 v4 v19 v23 v39 v40 v44 with
  | zero => exact h.elim
  | succ n ih =>
    unfold P_L_law_L735 at h
    refine xw_aload_n hf (pc := 735) dL_law_735 rfl 1 rfl ?_
    refine xw_aload_n hf (pc := 736) dL_law_736 rfl 0 rfl ?_
    refine xw_iload hf (pc := 737) dL_law_737 4 rfl ?_
    refine xw_iconst hf (pc := 739) dL_law_739 (v := 1) (by decide) ?_
    refine xw_iadd hf (pc := 740) dL_law_740 ?_
    refine xw_sald hf hX dL_law_741 h.1 ?_
    have h := h.2
    refine xw_i2l hf (pc := 742) dL_law_742 ?_
    refine xw_bipush hf (pc := 743) dL_law_743 (v := 32) (by decide) ?_
    refine xw_lshl hf (pc := 745) dL_law_745 ?_
    refine xw_aload_n hf (pc := 746) dL_law_746 rfl 0 rfl ?_
    refine xw_iload hf (pc := 747) dL_law_747 4 rfl ?_
    refine xw_iconst hf (pc := 749) dL_law_749 (v := 2) (by decide) ?_
    refine xw_iadd hf (pc := 750) dL_law_750 ?_
    refine xw_sald hf hX dL_law_751 h.1 ?_
    have h := h.2
    refine xw_i2l hf (pc := 752) dL_law_752 ?_
    refine xw_ldc2 hf (pc := 753) dL_law_753 mw_L_law_0 ?_
    refine xw_land hf (pc := 756) dL_law_756 ?_
    refine xw_lor hf (pc := 757) dL_law_757 ?_
    refine xw_aload_n hf (pc := 758) dL_law_758 rfl 3 rfl ?_
    obtain ⟨mc152, ms153, ⟨hb1, hb2⟩, h⟩ := h
    refine xw_callSW hf (pc := 759) (nA := 3) (Xr := [(a8, .inr (6, [.ref a9, .ref a11, .ref a12])), (a9, .inr (3, [.ref a10])), (a10, .inl (gI (xg x), 32, .inl v5)), (a11, .inl (gI (xg x), 32, .inl v6)), (a12, .inl (gI (xg x), 32, .inl v7)), (a13, .inr (1, [.ref a39, .ref a14, .ref a16, .int v8])), (a14, .inr (3, [.ref a15])), (a15, .inl (gI (xg x), 32, .inl v9)), (a16, .inr (3, [.ref a17])), (a17, .inl (gI (xg x), 32, .inl v10)), (a18, .inr (4, [.ref a19, .ref a21, .ref a23, .int v11, .int v12])), (a19, .inr (3, [.ref a20])), (a20, .inl (gI (xg x), 32, .inl v13)), (a21, .inr (7, [.ref a22, .int v14])), (a22, .inl (gJ (xg x), 60, .inr (.inl v15))), (a23, .inr (7, [.ref a24, .int v16])), (a24, .inl (gJ (xg x), 60, .inr (.inl v17))), (a25, .inr (3, [.ref a26])), (a26, .inl (gI (xg x), 32, .inl v18)), (a27, .inr (9, [.int v19, .ref a28, .int v20, .ref a29, .ref a30, .ref a31, .ref a32, .ref v30, .ref v33, .ref v36, .int v21, .int v22, .ref a33, .int v23, .ref a34, .ref a35, .ref a36, .ref a37, .int v24])), (a28, .inl (gJ (xg x), 60, .inr (.inl v25))), (a29, .inl (gI (xg x), 27, .inl v26)), (a30, .inl (gI (xg x), 27, .inl v27)), (a31, .inl (gI (xg x), 27, .inl v28)), (a32, .inl (gI (xg x), 27, .inl v29)), (v30, .inl (gJ (xg x), v31, .inr (.inl v32))), (v33, .inl (gI (xg x), v34, .inl v35)), (v36, .inl (gZ (xg x), v37, .inl v38)), (a33, .inl (gI (xg x), 12, .inl v39)), (a34, .inl (gI (xg x), 27, .inl v40)), (a35, .inl (gI (xg x), 27, .inl v41)), (a36, .inl (gI (xg x), 60, .inl v42)), (a37, .inl (gI (xg x), 3, .inl v43))] ++ ZP (xg x) a39 v45) (rest := []) (c_L_fittingCount (xl x) (xg x) hst a0 a1 a2 a3 a4 a5 a6 a7 a38 a8 a13 a18 a25 v0 v1 v2 v3 v4 v44 ((((v47 (z4 + 1).toNatClampNeg).toInt64) <<< ((32 : Int32).toInt64 &&& 63)) ||| (((v47 (z4 + 2).toNatClampNeg).toInt64) &&& 4294967295)) h) gL_law_L_fittingCount (by rfl) rfl (by decide +kernel) ⟨⟨(Nat.le_of_ble_eq_true rfl), (Nat.le_of_ble_eq_true rfl)⟩, (Nat.le_trans (show k0 + 1 ≤ k0 + rc by omega) hk.1), (Nat.le_trans (show n0 + 6 ≤ n0 + rs by omega) hk.2)⟩ (Nat.le_of_ble_eq_true rfl) (sb_zr (sb_of [0, 1, 2, 3, 4, 5, 6, 7, 41, 8, 9, 10, 11, 12, 13, 14, 15, 16, 17, 18, 19, 20, 21, 22, 23, 24, 25, 26, 27, 28, 29, 30, 31, 32, 33, 34, 35, 36, 37, 38, 39, 40] rfl rfl)) rfl dL_law_759 (fun v X1 hp => ?_)
    obtain ⟨r147, w148, w149, w150, w151, rfl, rfl, h⟩ := hp
    have hk : k0 + 1 + mc152 ≤ (rm_L_law).cells ∧ n0 + 6 + ms153 ≤ (rm_L_law).slots := ⟨Nat.le_trans (show k0 + 1 + mc152 ≤ k0 + rc by omega) hk.1, Nat.le_trans (show n0 + 6 + ms153 ≤ n0 + rs by omega) hk.2⟩
    refine xw_X (sb_rz (sb_of [0, 1, 2, 3, 4, 5, 6, 7, 9, 10, 11, 12, 13, 14, 15, 16, 17, 18, 19, 20, 21, 22, 23, 24, 25, 26, 27, 28, 29, 30, 31, 32, 33, 34, 35, 36, 37, 38, 39, 40, 41, 8] rfl rfl)) (show ww x (W_L_law (xg x) a0 a1 a2 a3 a4 a5 a6 a7 a8 a9 a10 a11 a12 a13 a14 a15 a16 a17 a18 a19 a20 a21 a22 a23 a24 a25 a26 a27 a28 a29 a30 a31 a32 a33 a34 a35 a36 a37 a38 a39 ab v0 v1 w148 w149 w150 v5 v6 v7 v8 v9 v10 v11 v12 v13 v14 v15 v16 v17 v18 v19 v20 v21 v22 v23 v24 v25 v26 v27 v28 v29 v30 v31 v32 v33 v34 v35 v36 v37 v38 v39 v40 v41 v42 v43 w151 v46 v47 ++ ZP (xg x) a39 v45) [(0, .ref ab), (1, .ref a0), (2, .ref a27), (3, .ref a38), (4, .int z4)] (k0 + 1) (n0 + 6) 762 [.int r147] from ?_)
    refine xw_istore hf (pc := 762) dL_law_762 [(5, .int r147), (0, .ref ab), (1, .ref a0), (2, .ref a27), (3, .ref a38), (4, .int z4)] hn (by decide) rfl ?_
    refine xw_aload_n hf (pc := 764) dL_law_764 rfl 3 rfl ?_
    refine xw_aload_n hf (pc := 765) dL_law_765 rfl 1 rfl ?_
    refine xw_iload hf (pc := 766) dL_law_766 5 rfl ?_
    refine xw_iconst hf (pc := 768) dL_law_768 (v := 1) (by decide) ?_
    refine xw_iadd hf (pc := 769) dL_law_769 ?_
    refine xw_sald hf hX dL_law_770 h.1 ?_
    have h := h.2
    refine xw_i2l hf (pc := 771) dL_law_771 ?_
    refine xw_bipush hf (pc := 772) dL_law_772 (v := 32) (by decide) ?_
    refine xw_lshl hf (pc := 774) dL_law_774 ?_
    refine xw_aload_n hf (pc := 775) dL_law_775 rfl 1 rfl ?_
    refine xw_iload hf (pc := 776) dL_law_776 5 rfl ?_
    refine xw_iconst hf (pc := 778) dL_law_778 (v := 2) (by decide) ?_
    refine xw_iadd hf (pc := 779) dL_law_779 ?_
    refine xw_sald hf hX dL_law_780 h.1 ?_
    have h := h.2
    refine xw_i2l hf (pc := 781) dL_law_781 ?_
    refine xw_ldc2 hf (pc := 782) dL_law_782 mw_L_law_0 ?_
    refine xw_land hf (pc := 785) dL_law_785 ?_
    refine xw_lor hf (pc := 786) dL_law_786 ?_
    refine xw_callV hf (pc := 787) (nA := 1) (Xr := [(a0, .inr (8, [.ref a1, .ref a8, .ref a13, .ref a18, .ref a25])), (a1, .inr (2, [.ref a2, .ref a4, .ref a6])), (a2, .inr (7, [.ref a3, .int v0])), (a3, .inl (gJ (xg x), 60, .inr (.inl v1))), (a4, .inr (7, [.ref a5, .int w148])), (a5, .inl (gJ (xg x), 60, .inr (.inl w149))), (a6, .inr (3, [.ref a7])), (a7, .inl (gI (xg x), 32, .inl w150)), (a8, .inr (6, [.ref a9, .ref a11, .ref a12])), (a9, .inr (3, [.ref a10])), (a10, .inl (gI (xg x), 32, .inl v5)), (a11, .inl (gI (xg x), 32, .inl v6)), (a12, .inl (gI (xg x), 32, .inl v7)), (a13, .inr (1, [.ref a39, .ref a14, .ref a16, .int v8])), (a14, .inr (3, [.ref a15])), (a15, .inl (gI (xg x), 32, .inl v9)), (a16, .inr (3, [.ref a17])), (a17, .inl (gI (xg x), 32, .inl v10)), (a18, .inr (4, [.ref a19, .ref a21, .ref a23, .int v11, .int v12])), (a19, .inr (3, [.ref a20])), (a20, .inl (gI (xg x), 32, .inl v13)), (a21, .inr (7, [.ref a22, .int v14])), (a22, .inl (gJ (xg x), 60, .inr (.inl v15))), (a23, .inr (7, [.ref a24, .int v16])), (a24, .inl (gJ (xg x), 60, .inr (.inl v17))), (a25, .inr (3, [.ref a26])), (a26, .inl (gI (xg x), 32, .inl v18)), (a29, .inl (gI (xg x), 27, .inl v26)), (a30, .inl (gI (xg x), 27, .inl v27)), (a31, .inl (gI (xg x), 27, .inl v28)), (a32, .inl (gI (xg x), 27, .inl v29)), (v30, .inl (gJ (xg x), v31, .inr (.inl v32))), (v33, .inl (gI (xg x), v34, .inl v35)), (v36, .inl (gZ (xg x), v37, .inl v38)), (a35, .inl (gI (xg x), 27, .inl v41)), (a36, .inl (gI (xg x), 60, .inl v42)), (a37, .inl (gI (xg x), 3, .inl v43)), (a38, .inl (gJ (xg x), 1, .inr (.inl w151)))] ++ ZP (xg x) a39 v45) (rest := []) (T := TX9) (c_X9_fittingCount (xl x) (xg x) a27 a28 a33 a34 a29 a30 a31 a32 v30 v33 v36 a35 a36 a37 v19 v20 v21 v22 v23 v24 v25 v39 v40 ((((v47 (z4 + 1).toNatClampNeg).toInt64) <<< ((32 : Int32).toInt64 &&& 63)) ||| (((v47 (z4 + 2).toNatClampNeg).toInt64) &&& 4294967295)) h) gL_law_X9_fittingCount (by rfl) rfl rfl (by decide +kernel) ⟨⟨(Nat.le_of_ble_eq_true rfl), (Nat.le_of_ble_eq_true rfl)⟩, (Nat.le_trans (Nat.le_add_right _ _) hk.1), (Nat.le_trans (Nat.le_add_right _ _) hk.2)⟩ (Nat.le_of_ble_eq_true rfl) rfl rfl (sb_zr (sb_of [27, 28, 36, 37, 0, 1, 2, 3, 4, 5, 6, 7, 8, 9, 10, 11, 12, 13, 14, 15, 16, 17, 18, 19, 20, 21, 22, 23, 24, 25, 26, 29, 30, 31, 32, 33, 34, 35, 38, 39, 40, 41] rfl rfl)) rfl dL_law_787 (fun v X1 hp => ?_)
    obtain ⟨r154, w155, w156, w157, w158, rfl, rfl, h⟩ := hp
    refine xw_X (sb_rz (sb_of [4, 5, 6, 7, 8, 9, 10, 11, 12, 13, 14, 15, 16, 17, 18, 19, 20, 21, 22, 23, 24, 25, 26, 27, 28, 29, 30, 0, 1, 31, 32, 33, 34, 35, 36, 37, 2, 3, 38, 39, 40, 41] rfl rfl)) (show ww x (W_L_law (xg x) a0 a1 a2 a3 a4 a5 a6 a7 a8 a9 a10 a11 a12 a13 a14 a15 a16 a17 a18 a19 a20 a21 a22 a23 a24 a25 a26 a27 a28 a29 a30 a31 a32 a33 a34 a35 a36 a37 a38 a39 ab v0 v1 w148 w149 w150 v5 v6 v7 v8 v9 v10 v11 v12 v13 v14 v15 v16 v17 v18 w155 v20 v21 v22 w156 v24 v25 v26 v27 v28 v29 v30 v31 v32 v33 v34 v35 v36 v37 v38 w157 w158 v41 v42 v43 w151 v46 v47 ++ ZP (xg x) a39 v45) [(5, .int r147), (0, .ref ab), (1, .ref a0), (2, .ref a27), (3, .ref a38), (4, .int z4)] (k0 + 1) (n0 + 6) 790 [.int r154] from ?_)
    refine xw_istore hf (pc := 790) dL_law_790 [(6, .int r154), (5, .int r147), (0, .ref ab), (1, .ref a0), (2, .ref a27), (3, .ref a38), (4, .int z4)] hn (by decide) rfl ?_
    refine xw_aload_n hf (pc := 792) dL_law_792 rfl 4 rfl ?_
    refine xw_callV hf (pc := 793) (nA := 0) (Xr := [(a0, .inr (8, [.ref a1, .ref a8, .ref a13, .ref a18, .ref a25])), (a1, .inr (2, [.ref a2, .ref a4, .ref a6])), (a2, .inr (7, [.ref a3, .int v0])), (a3, .inl (gJ (xg x), 60, .inr (.inl v1))), (a4, .inr (7, [.ref a5, .int w148])), (a5, .inl (gJ (xg x), 60, .inr (.inl w149))), (a6, .inr (3, [.ref a7])), (a7, .inl (gI (xg x), 32, .inl w150)), (a8, .inr (6, [.ref a9, .ref a11, .ref a12])), (a9, .inr (3, [.ref a10])), (a10, .inl (gI (xg x), 32, .inl v5)), (a11, .inl (gI (xg x), 32, .inl v6)), (a12, .inl (gI (xg x), 32, .inl v7)), (a13, .inr (1, [.ref a39, .ref a14, .ref a16, .int v8])), (a14, .inr (3, [.ref a15])), (a15, .inl (gI (xg x), 32, .inl v9)), (a16, .inr (3, [.ref a17])), (a17, .inl (gI (xg x), 32, .inl v10)), (a18, .inr (4, [.ref a19, .ref a21, .ref a23, .int v11, .int v12])), (a19, .inr (3, [.ref a20])), (a20, .inl (gI (xg x), 32, .inl v13)), (a21, .inr (7, [.ref a22, .int v14])), (a22, .inl (gJ (xg x), 60, .inr (.inl v15))), (a23, .inr (7, [.ref a24, .int v16])), (a24, .inl (gJ (xg x), 60, .inr (.inl v17))), (a25, .inr (3, [.ref a26])), (a26, .inl (gI (xg x), 32, .inl v18)), (a28, .inl (gJ (xg x), 60, .inr (.inl v25))), (a29, .inl (gI (xg x), 27, .inl v26)), (a30, .inl (gI (xg x), 27, .inl v27)), (a31, .inl (gI (xg x), 27, .inl v28)), (a32, .inl (gI (xg x), 27, .inl v29)), (v30, .inl (gJ (xg x), v31, .inr (.inl v32))), (v33, .inl (gI (xg x), v34, .inl v35)), (v36, .inl (gZ (xg x), v37, .inl v38)), (a33, .inl (gI (xg x), 12, .inl w157)), (a34, .inl (gI (xg x), 27, .inl w158)), (a35, .inl (gI (xg x), 27, .inl v41)), (a36, .inl (gI (xg x), 60, .inl v42)), (a37, .inl (gI (xg x), 3, .inl v43)), (a38, .inl (gJ (xg x), 1, .inr (.inl w151)))] ++ ZP (xg x) a39 v45) (rest := []) (T := TX9) (c_X9_thrown (xl x) (xg x) a27 a28 a29 a30 a31 a32 v30 v33 v36 a33 a34 a35 a36 a37 w155 v20 v21 v22 w156 v24 h) gL_law_X9_thrown (by rfl) rfl rfl (by decide +kernel) ⟨⟨(Nat.le_of_ble_eq_true rfl), (Nat.le_of_ble_eq_true rfl)⟩, (Nat.le_trans (Nat.le_add_right _ _) hk.1), (Nat.le_trans (Nat.le_add_right _ _) hk.2)⟩ (Nat.le_of_ble_eq_true rfl) rfl rfl (sb_zr (sb_of [27, 0, 1, 2, 3, 4, 5, 6, 7, 8, 9, 10, 11, 12, 13, 14, 15, 16, 17, 18, 19, 20, 21, 22, 23, 24, 25, 26, 28, 29, 30, 31, 32, 33, 34, 35, 36, 37, 38, 39, 40, 41] rfl rfl)) rfl dL_law_793 (fun v X1 hp => ?_)
    obtain ⟨r159, rfl, rfl, h⟩ := hp
    refine xw_X (sb_rz (sb_of [1, 2, 3, 4, 5, 6, 7, 8, 9, 10, 11, 12, 13, 14, 15, 16, 17, 18, 19, 20, 21, 22, 23, 24, 25, 26, 27, 0, 28, 29, 30, 31, 32, 33, 34, 35, 36, 37, 38, 39, 40, 41] rfl rfl)) (show ww x (W_L_law (xg x) a0 a1 a2 a3 a4 a5 a6 a7 a8 a9 a10 a11 a12 a13 a14 a15 a16 a17 a18 a19 a20 a21 a22 a23 a24 a25 a26 a27 a28 a29 a30 a31 a32 a33 a34 a35 a36 a37 a38 a39 ab v0 v1 w148 w149 w150 v5 v6 v7 v8 v9 v10 v11 v12 v13 v14 v15 v16 v17 v18 w155 v20 v21 v22 w156 v24 v25 v26 v27 v28 v29 v30 v31 v32 v33 v34 v35 v36 v37 v38 w157 w158 v41 v42 v43 w151 v46 v47 ++ ZP (xg x) a39 v45) [(6, .int r154), (5, .int r147), (0, .ref ab), (1, .ref a0), (2, .ref a27), (3, .ref a38), (4, .int z4)] (k0 + 1) (n0 + 6) 796 [.int r159] from ?_)
    refine xw_iload hf (pc := 796) dL_law_796 1 rfl ?_
    refine xw_icmp_eq hf (pc := 798) dL_law_798 (tgt := 803) rfl ⟨fun c => ?_, fun c => ?_⟩
    · have h := h.1 c
      refine xw_iload hf (pc := 803) dL_law_803 1 rfl ?_
      refine xw_if_ne hf (pc := 805) dL_law_805 (c := r147 = 0) Iff.rfl (tgt := 820) rfl ⟨fun c => ?_, fun c => ?_⟩
      · have h := h.1 c
        refine xw_aload_n hf (pc := 808) dL_law_808 rfl 5 rfl ?_
        refine xw_iconst hf (pc := 809) dL_law_809 (v := 0) (by decide) ?_
        refine xw_lald hf (pc := 810) dL_law_810 41 rfl h.1 ?_
        have h := h.2
        refine xw_iload hf (pc := 811) dL_law_811 0 rfl ?_
        refine xw_i2l hf (pc := 813) dL_law_813 ?_
        refine xw_lcmp hf (pc := 814) dL_law_814 ?_
        refine xw_if_eq hf (pc := 815) dL_law_815 (c := (w151 (0 : Int32).toNatClampNeg) = r154.toInt64) (lc_eq _ _) (tgt := 820) rfl ⟨fun c => ?_, fun c => ?_⟩
        · have h := h.1 c
          refine xw_goto hf (pc := 820) dL_law_820 (tgt := 2681) rfl ?_
          refine xw_L [2, 3, 4, 5, 6] rfl ?_
          exact hK2681 _ _ _ _ hk _ _ _ _ _ _ _ _ h
        · have h := h.2 c
          refine xw_iconst hf (pc := 818) dL_law_818 (v := 0) (by decide) ?_
          exact h.elim
      · have h := h.2 c
        refine xw_goto hf (pc := 820) dL_law_820 (tgt := 2681) rfl ?_
        refine xw_L [2, 3, 4, 5, 6] rfl ?_
        exact hK2681 _ _ _ _ hk _ _ _ _ _ _ _ _ h
    · have h := h.2 c
      refine xw_iconst hf (pc := 801) dL_law_801 (v := 0) (by decide) ?_
      exact h.elim
set_option maxHeartbeats 4000000 in
set_option maxRecDepth 100000 in
theorem w_L_law_L823 {x : Cx} {mc ms : Nat} (hf : fx x (rm_L_law) RL cL_law wsL_law) (hn : xn x = 8) {k0 n0 rc rs : Nat} (hk : k0 + rc ≤ (rm_L_law).cells ∧ n0 + rs ≤ (rm_L_law).slots) (a0 a1 a2 a3 a4 a5 a6 a7 a8 a9 a10 a11 a12 a13 a14 a15 a16 a17 a18 a19 a20 a21 a22 a23 a24 a25 a26 a27 a28 a29 a30 a31 a32 a33 a34 a35 a36 a37 a38 a39 ab : Nat) (z4 : Int32) (v0 : Int32) (v1 : Nat → Int64) (v20 : Int32) (v21 : Int32) (v22 : Int32) (v24 : Int32) (v25 : Nat → Int64) (v46 : Nat) (v47 : Nat → Int32) (v5 : Nat → Int32) (v6 : Nat → Int32) (v7 : Nat → Int32) (v8 : Int32) (v9 : Nat → Int32) (v10 : Nat → Int32) (v11 : Int32) (v12 : Int32) (v13 : Nat → Int32) (v14 : Int32) (v15 : Nat → Int64) (v16 : Int32) (v17 : Nat → Int64) (v18 : Nat → Int32) (v26 : Nat → Int32) (v27 : Nat → Int32) (v28 : Nat → Int32) (v29 : Nat → Int32) (v30 : Nat) (v31 : Nat) (v32 : Nat → Int64) (v33 : Nat) (v34 : Nat) (v35 : Nat → Int32) (v36 : Nat) (v37 : Nat) (v38 : Nat → Int32) (v41 : Nat → Int32) (v42 : Nat → Int32) (v43 : Nat → Int32) (v45 : ZL) {K2681 : Nat → Nat → Int32 → (Nat → Int64) → (Nat → Int32) → Int32 → Int32 → (Nat → Int32) → (Nat → Int32) → (Nat → Int64) → Prop} (hst : (xl x).stackTraces = false) (hX : sX x ab v46 v47)
    (n : Nat) (v2 : Int32) (v3 : Nat → Int64) (v4 : Nat → Int32) (v19 : Int32) (v23 : Int32) (v39 : Nat → Int32) (v40 : Nat → Int32) (v44 : Nat → Int64) (h : P_L_law_L823 z4 v0 v1 v20 v21 v22 v24 v25 v46 v47 K2681 n rc rs v2 v3 v4 v19 v23 v39 v40 v44)
    (hK2681 : ∀ (k0 n0 rc rs : Nat), k0 + rc ≤ (rm_L_law).cells ∧ n0 + rs ≤ (rm_L_law).slots → ∀ (uv2 : Int32), ∀ (uv3 : Nat → Int64), ∀ (uv4 : Nat → Int32), ∀ (uv19 : Int32), ∀ (uv23 : Int32), ∀ (uv39 : Nat → Int32), ∀ (uv40 : Nat → Int32), ∀ (uv44 : Nat → Int64), K2681 rc rs uv2 uv3 uv4 uv19 uv23 uv39 uv40 uv44 → ww x (W_L_law (xg x) a0 a1 a2 a3 a4 a5 a6 a7 a8 a9 a10 a11 a12 a13 a14 a15 a16 a17 a18 a19 a20 a21 a22 a23 a24 a25 a26 a27 a28 a29 a30 a31 a32 a33 a34 a35 a36 a37 a38 a39 ab v0 v1 uv2 uv3 uv4 v5 v6 v7 v8 v9 v10 v11 v12 v13 v14 v15 v16 v17 v18 uv19 v20 v21 v22 uv23 v24 v25 v26 v27 v28 v29 v30 v31 v32 v33 v34 v35 v36 v37 v38 uv39 uv40 v41 v42 v43 uv44 v46 v47 ++ ZP (xg x) a39 v45) [(0, .ref ab), (1, .ref a0), (2, .ref a27), (3, .ref a38), (4, .int z4)] k0 n0 2681 []) :
    ww x (W_L_law (xg x) a0 a1 a2 a3 a4 a5 a6 a7 a8 a9 a10 a11 a12 a13 a14 a15 a16 a17 a18 a19 a20 a21 a22 a23 a24 a25 a26 a27 a28 a29 a30 a31 a32 a33 a34 a35 a36 a37 a38 a39 ab v0 v1 v2 v3 v4 v5 v6 v7 v8 v9 v10 v11 v12 v13 v14 v15 v16 v17 v18 v19 v20 v21 v22 v23 v24 v25 v26 v27 v28 v29 v30 v31 v32 v33 v34 v35 v36 v37 v38 v39 v40 v41 v42 v43 v44 v46 v47 ++ ZP (xg x) a39 v45) [(0, .ref ab), (1, .ref a0), (2, .ref a27), (3, .ref a38), (4, .int z4)] k0 n0 823 [] := by
  induction n generalizing k0 n0 rc rs v2 v3 v4 v19 v23 v39 v40 v44 with
  | zero => exact h.elim
  | succ n ih =>
    unfold P_L_law_L823 at h
    refine xw_aload_n hf (pc := 823) dL_law_823 rfl 1 rfl ?_
    refine xw_aload_n hf (pc := 824) dL_law_824 rfl 0 rfl ?_
    refine xw_iload hf (pc := 825) dL_law_825 4 rfl ?_
    refine xw_iconst hf (pc := 827) dL_law_827 (v := 1) (by decide) ?_
    refine xw_iadd hf (pc := 828) dL_law_828 ?_
    refine xw_sald hf hX dL_law_829 h.1 ?_
    have h := h.2
    refine xw_i2l hf (pc := 830) dL_law_830 ?_
    refine xw_bipush hf (pc := 831) dL_law_831 (v := 32) (by decide) ?_
    refine xw_lshl hf (pc := 833) dL_law_833 ?_
    refine xw_aload_n hf (pc := 834) dL_law_834 rfl 0 rfl ?_
    refine xw_iload hf (pc := 835) dL_law_835 4 rfl ?_
    refine xw_iconst hf (pc := 837) dL_law_837 (v := 2) (by decide) ?_
    refine xw_iadd hf (pc := 838) dL_law_838 ?_
    refine xw_sald hf hX dL_law_839 h.1 ?_
    have h := h.2
    refine xw_i2l hf (pc := 840) dL_law_840 ?_
    refine xw_ldc2 hf (pc := 841) dL_law_841 mw_L_law_0 ?_
    refine xw_land hf (pc := 844) dL_law_844 ?_
    refine xw_lor hf (pc := 845) dL_law_845 ?_
    refine xw_aload_n hf (pc := 846) dL_law_846 rfl 0 rfl ?_
    refine xw_iload hf (pc := 847) dL_law_847 4 rfl ?_
    refine xw_iconst hf (pc := 849) dL_law_849 (v := 3) (by decide) ?_
    refine xw_iadd hf (pc := 850) dL_law_850 ?_
    refine xw_sald hf hX dL_law_851 h.1 ?_
    have h := h.2
    refine xw_aload_n hf (pc := 852) dL_law_852 rfl 3 rfl ?_
    obtain ⟨mc177, ms178, ⟨hb1, hb2⟩, h⟩ := h
    refine xw_callSW hf (pc := 853) (nA := 4) (Xr := [(a8, .inr (6, [.ref a9, .ref a11, .ref a12])), (a9, .inr (3, [.ref a10])), (a10, .inl (gI (xg x), 32, .inl v5)), (a11, .inl (gI (xg x), 32, .inl v6)), (a12, .inl (gI (xg x), 32, .inl v7)), (a13, .inr (1, [.ref a39, .ref a14, .ref a16, .int v8])), (a14, .inr (3, [.ref a15])), (a15, .inl (gI (xg x), 32, .inl v9)), (a16, .inr (3, [.ref a17])), (a17, .inl (gI (xg x), 32, .inl v10)), (a18, .inr (4, [.ref a19, .ref a21, .ref a23, .int v11, .int v12])), (a19, .inr (3, [.ref a20])), (a20, .inl (gI (xg x), 32, .inl v13)), (a21, .inr (7, [.ref a22, .int v14])), (a22, .inl (gJ (xg x), 60, .inr (.inl v15))), (a23, .inr (7, [.ref a24, .int v16])), (a24, .inl (gJ (xg x), 60, .inr (.inl v17))), (a25, .inr (3, [.ref a26])), (a26, .inl (gI (xg x), 32, .inl v18)), (a27, .inr (9, [.int v19, .ref a28, .int v20, .ref a29, .ref a30, .ref a31, .ref a32, .ref v30, .ref v33, .ref v36, .int v21, .int v22, .ref a33, .int v23, .ref a34, .ref a35, .ref a36, .ref a37, .int v24])), (a28, .inl (gJ (xg x), 60, .inr (.inl v25))), (a29, .inl (gI (xg x), 27, .inl v26)), (a30, .inl (gI (xg x), 27, .inl v27)), (a31, .inl (gI (xg x), 27, .inl v28)), (a32, .inl (gI (xg x), 27, .inl v29)), (v30, .inl (gJ (xg x), v31, .inr (.inl v32))), (v33, .inl (gI (xg x), v34, .inl v35)), (v36, .inl (gZ (xg x), v37, .inl v38)), (a33, .inl (gI (xg x), 12, .inl v39)), (a34, .inl (gI (xg x), 27, .inl v40)), (a35, .inl (gI (xg x), 27, .inl v41)), (a36, .inl (gI (xg x), 60, .inl v42)), (a37, .inl (gI (xg x), 3, .inl v43))] ++ ZP (xg x) a39 v45) (rest := []) (c_L_fittingWord (xl x) (xg x) hst a0 a1 a2 a3 a4 a5 a6 a7 a38 a8 a13 a18 a25 v0 v1 v2 v3 v4 v44 ((((v47 (z4 + 1).toNatClampNeg).toInt64) <<< ((32 : Int32).toInt64 &&& 63)) ||| (((v47 (z4 + 2).toNatClampNeg).toInt64) &&& 4294967295)) (v47 (z4 + 3).toNatClampNeg) h) gL_law_L_fittingWord (by rfl) rfl (by decide +kernel) ⟨⟨(Nat.le_of_ble_eq_true rfl), (Nat.le_of_ble_eq_true rfl)⟩, (Nat.le_trans (show k0 + 2 ≤ k0 + rc by omega) hk.1), (Nat.le_trans (show n0 + 12 ≤ n0 + rs by omega) hk.2)⟩ (Nat.le_of_ble_eq_true rfl) (sb_zr (sb_of [0, 1, 2, 3, 4, 5, 6, 7, 41, 8, 9, 10, 11, 12, 13, 14, 15, 16, 17, 18, 19, 20, 21, 22, 23, 24, 25, 26, 27, 28, 29, 30, 31, 32, 33, 34, 35, 36, 37, 38, 39, 40] rfl rfl)) rfl dL_law_853 (fun v X1 hp => ?_)
    obtain ⟨r172, w173, w174, w175, w176, rfl, rfl, h⟩ := hp
    have hk : k0 + 2 + mc177 ≤ (rm_L_law).cells ∧ n0 + 12 + ms178 ≤ (rm_L_law).slots := ⟨Nat.le_trans (show k0 + 2 + mc177 ≤ k0 + rc by omega) hk.1, Nat.le_trans (show n0 + 12 + ms178 ≤ n0 + rs by omega) hk.2⟩
    refine xw_X (sb_rz (sb_of [0, 1, 2, 3, 4, 5, 6, 7, 9, 10, 11, 12, 13, 14, 15, 16, 17, 18, 19, 20, 21, 22, 23, 24, 25, 26, 27, 28, 29, 30, 31, 32, 33, 34, 35, 36, 37, 38, 39, 40, 41, 8] rfl rfl)) (show ww x (W_L_law (xg x) a0 a1 a2 a3 a4 a5 a6 a7 a8 a9 a10 a11 a12 a13 a14 a15 a16 a17 a18 a19 a20 a21 a22 a23 a24 a25 a26 a27 a28 a29 a30 a31 a32 a33 a34 a35 a36 a37 a38 a39 ab v0 v1 w173 w174 w175 v5 v6 v7 v8 v9 v10 v11 v12 v13 v14 v15 v16 v17 v18 v19 v20 v21 v22 v23 v24 v25 v26 v27 v28 v29 v30 v31 v32 v33 v34 v35 v36 v37 v38 v39 v40 v41 v42 v43 w176 v46 v47 ++ ZP (xg x) a39 v45) [(0, .ref ab), (1, .ref a0), (2, .ref a27), (3, .ref a38), (4, .int z4)] (k0 + 2) (n0 + 12) 856 [.int r172] from ?_)
    refine xw_istore hf (pc := 856) dL_law_856 [(5, .int r172), (0, .ref ab), (1, .ref a0), (2, .ref a27), (3, .ref a38), (4, .int z4)] hn (by decide) rfl ?_
    refine xw_aload_n hf (pc := 858) dL_law_858 rfl 3 rfl ?_
    refine xw_aload_n hf (pc := 859) dL_law_859 rfl 1 rfl ?_
    refine xw_iload hf (pc := 860) dL_law_860 5 rfl ?_
    refine xw_iconst hf (pc := 862) dL_law_862 (v := 1) (by decide) ?_
    refine xw_iadd hf (pc := 863) dL_law_863 ?_
    refine xw_sald hf hX dL_law_864 h.1 ?_
    have h := h.2
    refine xw_i2l hf (pc := 865) dL_law_865 ?_
    refine xw_bipush hf (pc := 866) dL_law_866 (v := 32) (by decide) ?_
    refine xw_lshl hf (pc := 868) dL_law_868 ?_
    refine xw_aload_n hf (pc := 869) dL_law_869 rfl 1 rfl ?_
    refine xw_iload hf (pc := 870) dL_law_870 5 rfl ?_
    refine xw_iconst hf (pc := 872) dL_law_872 (v := 2) (by decide) ?_
    refine xw_iadd hf (pc := 873) dL_law_873 ?_
    refine xw_sald hf hX dL_law_874 h.1 ?_
    have h := h.2
    refine xw_i2l hf (pc := 875) dL_law_875 ?_
    refine xw_ldc2 hf (pc := 876) dL_law_876 mw_L_law_0 ?_
    refine xw_land hf (pc := 879) dL_law_879 ?_
    refine xw_lor hf (pc := 880) dL_law_880 ?_
    refine xw_aload_n hf (pc := 881) dL_law_881 rfl 1 rfl ?_
    refine xw_iload hf (pc := 882) dL_law_882 5 rfl ?_
    refine xw_iconst hf (pc := 884) dL_law_884 (v := 3) (by decide) ?_
    refine xw_iadd hf (pc := 885) dL_law_885 ?_
    refine xw_sald hf hX dL_law_886 h.1 ?_
    have h := h.2
    refine xw_callV hf (pc := 887) (nA := 2) (Xr := [(a0, .inr (8, [.ref a1, .ref a8, .ref a13, .ref a18, .ref a25])), (a1, .inr (2, [.ref a2, .ref a4, .ref a6])), (a2, .inr (7, [.ref a3, .int v0])), (a3, .inl (gJ (xg x), 60, .inr (.inl v1))), (a4, .inr (7, [.ref a5, .int w173])), (a5, .inl (gJ (xg x), 60, .inr (.inl w174))), (a6, .inr (3, [.ref a7])), (a7, .inl (gI (xg x), 32, .inl w175)), (a8, .inr (6, [.ref a9, .ref a11, .ref a12])), (a9, .inr (3, [.ref a10])), (a10, .inl (gI (xg x), 32, .inl v5)), (a11, .inl (gI (xg x), 32, .inl v6)), (a12, .inl (gI (xg x), 32, .inl v7)), (a13, .inr (1, [.ref a39, .ref a14, .ref a16, .int v8])), (a14, .inr (3, [.ref a15])), (a15, .inl (gI (xg x), 32, .inl v9)), (a16, .inr (3, [.ref a17])), (a17, .inl (gI (xg x), 32, .inl v10)), (a18, .inr (4, [.ref a19, .ref a21, .ref a23, .int v11, .int v12])), (a19, .inr (3, [.ref a20])), (a20, .inl (gI (xg x), 32, .inl v13)), (a21, .inr (7, [.ref a22, .int v14])), (a22, .inl (gJ (xg x), 60, .inr (.inl v15))), (a23, .inr (7, [.ref a24, .int v16])), (a24, .inl (gJ (xg x), 60, .inr (.inl v17))), (a25, .inr (3, [.ref a26])), (a26, .inl (gI (xg x), 32, .inl v18)), (a29, .inl (gI (xg x), 27, .inl v26)), (a30, .inl (gI (xg x), 27, .inl v27)), (a31, .inl (gI (xg x), 27, .inl v28)), (a32, .inl (gI (xg x), 27, .inl v29)), (v30, .inl (gJ (xg x), v31, .inr (.inl v32))), (v33, .inl (gI (xg x), v34, .inl v35)), (v36, .inl (gZ (xg x), v37, .inl v38)), (a35, .inl (gI (xg x), 27, .inl v41)), (a36, .inl (gI (xg x), 60, .inl v42)), (a37, .inl (gI (xg x), 3, .inl v43)), (a38, .inl (gJ (xg x), 1, .inr (.inl w176)))] ++ ZP (xg x) a39 v45) (rest := []) (T := TX9) (c_X9_fittingWord (xl x) (xg x) a27 a28 a33 a34 a29 a30 a31 a32 v30 v33 v36 a35 a36 a37 v19 v20 v21 v22 v23 v24 v25 v39 v40 ((((v47 (z4 + 1).toNatClampNeg).toInt64) <<< ((32 : Int32).toInt64 &&& 63)) ||| (((v47 (z4 + 2).toNatClampNeg).toInt64) &&& 4294967295)) (v47 (z4 + 3).toNatClampNeg) h) gL_law_X9_fittingWord (by rfl) rfl rfl (by decide +kernel) ⟨⟨(Nat.le_of_ble_eq_true rfl), (Nat.le_of_ble_eq_true rfl)⟩, (Nat.le_trans (Nat.le_add_right _ _) hk.1), (Nat.le_trans (Nat.le_add_right _ _) hk.2)⟩ (Nat.le_of_ble_eq_true rfl) rfl rfl (sb_zr (sb_of [27, 28, 36, 37, 0, 1, 2, 3, 4, 5, 6, 7, 8, 9, 10, 11, 12, 13, 14, 15, 16, 17, 18, 19, 20, 21, 22, 23, 24, 25, 26, 29, 30, 31, 32, 33, 34, 35, 38, 39, 40, 41] rfl rfl)) rfl dL_law_887 (fun v X1 hp => ?_)
    obtain ⟨r179, w180, w181, w182, w183, rfl, rfl, h⟩ := hp
    refine xw_X (sb_rz (sb_of [4, 5, 6, 7, 8, 9, 10, 11, 12, 13, 14, 15, 16, 17, 18, 19, 20, 21, 22, 23, 24, 25, 26, 27, 28, 29, 30, 0, 1, 31, 32, 33, 34, 35, 36, 37, 2, 3, 38, 39, 40, 41] rfl rfl)) (show ww x (W_L_law (xg x) a0 a1 a2 a3 a4 a5 a6 a7 a8 a9 a10 a11 a12 a13 a14 a15 a16 a17 a18 a19 a20 a21 a22 a23 a24 a25 a26 a27 a28 a29 a30 a31 a32 a33 a34 a35 a36 a37 a38 a39 ab v0 v1 w173 w174 w175 v5 v6 v7 v8 v9 v10 v11 v12 v13 v14 v15 v16 v17 v18 w180 v20 v21 v22 w181 v24 v25 v26 v27 v28 v29 v30 v31 v32 v33 v34 v35 v36 v37 v38 w182 w183 v41 v42 v43 w176 v46 v47 ++ ZP (xg x) a39 v45) [(5, .int r172), (0, .ref ab), (1, .ref a0), (2, .ref a27), (3, .ref a38), (4, .int z4)] (k0 + 2) (n0 + 12) 890 [.long r179] from ?_)
    refine xw_lstore hf (pc := 890) dL_law_890 [(6, .long r179), (5, .int r172), (0, .ref ab), (1, .ref a0), (2, .ref a27), (3, .ref a38), (4, .int z4)] hn (by decide) rfl ?_
    refine xw_aload_n hf (pc := 892) dL_law_892 rfl 4 rfl ?_
    refine xw_callV hf (pc := 893) (nA := 0) (Xr := [(a0, .inr (8, [.ref a1, .ref a8, .ref a13, .ref a18, .ref a25])), (a1, .inr (2, [.ref a2, .ref a4, .ref a6])), (a2, .inr (7, [.ref a3, .int v0])), (a3, .inl (gJ (xg x), 60, .inr (.inl v1))), (a4, .inr (7, [.ref a5, .int w173])), (a5, .inl (gJ (xg x), 60, .inr (.inl w174))), (a6, .inr (3, [.ref a7])), (a7, .inl (gI (xg x), 32, .inl w175)), (a8, .inr (6, [.ref a9, .ref a11, .ref a12])), (a9, .inr (3, [.ref a10])), (a10, .inl (gI (xg x), 32, .inl v5)), (a11, .inl (gI (xg x), 32, .inl v6)), (a12, .inl (gI (xg x), 32, .inl v7)), (a13, .inr (1, [.ref a39, .ref a14, .ref a16, .int v8])), (a14, .inr (3, [.ref a15])), (a15, .inl (gI (xg x), 32, .inl v9)), (a16, .inr (3, [.ref a17])), (a17, .inl (gI (xg x), 32, .inl v10)), (a18, .inr (4, [.ref a19, .ref a21, .ref a23, .int v11, .int v12])), (a19, .inr (3, [.ref a20])), (a20, .inl (gI (xg x), 32, .inl v13)), (a21, .inr (7, [.ref a22, .int v14])), (a22, .inl (gJ (xg x), 60, .inr (.inl v15))), (a23, .inr (7, [.ref a24, .int v16])), (a24, .inl (gJ (xg x), 60, .inr (.inl v17))), (a25, .inr (3, [.ref a26])), (a26, .inl (gI (xg x), 32, .inl v18)), (a28, .inl (gJ (xg x), 60, .inr (.inl v25))), (a29, .inl (gI (xg x), 27, .inl v26)), (a30, .inl (gI (xg x), 27, .inl v27)), (a31, .inl (gI (xg x), 27, .inl v28)), (a32, .inl (gI (xg x), 27, .inl v29)), (v30, .inl (gJ (xg x), v31, .inr (.inl v32))), (v33, .inl (gI (xg x), v34, .inl v35)), (v36, .inl (gZ (xg x), v37, .inl v38)), (a33, .inl (gI (xg x), 12, .inl w182)), (a34, .inl (gI (xg x), 27, .inl w183)), (a35, .inl (gI (xg x), 27, .inl v41)), (a36, .inl (gI (xg x), 60, .inl v42)), (a37, .inl (gI (xg x), 3, .inl v43)), (a38, .inl (gJ (xg x), 1, .inr (.inl w176)))] ++ ZP (xg x) a39 v45) (rest := []) (T := TX9) (c_X9_thrown (xl x) (xg x) a27 a28 a29 a30 a31 a32 v30 v33 v36 a33 a34 a35 a36 a37 w180 v20 v21 v22 w181 v24 h) gL_law_X9_thrown (by rfl) rfl rfl (by decide +kernel) ⟨⟨(Nat.le_of_ble_eq_true rfl), (Nat.le_of_ble_eq_true rfl)⟩, (Nat.le_trans (Nat.le_add_right _ _) hk.1), (Nat.le_trans (Nat.le_add_right _ _) hk.2)⟩ (Nat.le_of_ble_eq_true rfl) rfl rfl (sb_zr (sb_of [27, 0, 1, 2, 3, 4, 5, 6, 7, 8, 9, 10, 11, 12, 13, 14, 15, 16, 17, 18, 19, 20, 21, 22, 23, 24, 25, 26, 28, 29, 30, 31, 32, 33, 34, 35, 36, 37, 38, 39, 40, 41] rfl rfl)) rfl dL_law_893 (fun v X1 hp => ?_)
    obtain ⟨r184, rfl, rfl, h⟩ := hp
    refine xw_X (sb_rz (sb_of [1, 2, 3, 4, 5, 6, 7, 8, 9, 10, 11, 12, 13, 14, 15, 16, 17, 18, 19, 20, 21, 22, 23, 24, 25, 26, 27, 0, 28, 29, 30, 31, 32, 33, 34, 35, 36, 37, 38, 39, 40, 41] rfl rfl)) (show ww x (W_L_law (xg x) a0 a1 a2 a3 a4 a5 a6 a7 a8 a9 a10 a11 a12 a13 a14 a15 a16 a17 a18 a19 a20 a21 a22 a23 a24 a25 a26 a27 a28 a29 a30 a31 a32 a33 a34 a35 a36 a37 a38 a39 ab v0 v1 w173 w174 w175 v5 v6 v7 v8 v9 v10 v11 v12 v13 v14 v15 v16 v17 v18 w180 v20 v21 v22 w181 v24 v25 v26 v27 v28 v29 v30 v31 v32 v33 v34 v35 v36 v37 v38 w182 w183 v41 v42 v43 w176 v46 v47 ++ ZP (xg x) a39 v45) [(6, .long r179), (5, .int r172), (0, .ref ab), (1, .ref a0), (2, .ref a27), (3, .ref a38), (4, .int z4)] (k0 + 2) (n0 + 12) 896 [.int r184] from ?_)
    refine xw_iload hf (pc := 896) dL_law_896 1 rfl ?_
    refine xw_icmp_eq hf (pc := 898) dL_law_898 (tgt := 903) rfl ⟨fun c => ?_, fun c => ?_⟩
    · have h := h.1 c
      refine xw_iload hf (pc := 903) dL_law_903 1 rfl ?_
      refine xw_if_ne hf (pc := 905) dL_law_905 (c := r172 = 0) Iff.rfl (tgt := 919) rfl ⟨fun c => ?_, fun c => ?_⟩
      · have h := h.1 c
        refine xw_aload_n hf (pc := 908) dL_law_908 rfl 5 rfl ?_
        refine xw_iconst hf (pc := 909) dL_law_909 (v := 0) (by decide) ?_
        refine xw_lald hf (pc := 910) dL_law_910 41 rfl h.1 ?_
        have h := h.2
        refine xw_lload hf (pc := 911) dL_law_911 0 rfl ?_
        refine xw_lcmp hf (pc := 913) dL_law_913 ?_
        refine xw_if_eq hf (pc := 914) dL_law_914 (c := (w176 (0 : Int32).toNatClampNeg) = r179) (lc_eq _ _) (tgt := 919) rfl ⟨fun c => ?_, fun c => ?_⟩
        · have h := h.1 c
          refine xw_goto hf (pc := 919) dL_law_919 (tgt := 2681) rfl ?_
          refine xw_L [2, 3, 4, 5, 6] rfl ?_
          exact hK2681 _ _ _ _ hk _ _ _ _ _ _ _ _ h
        · have h := h.2 c
          refine xw_iconst hf (pc := 917) dL_law_917 (v := 0) (by decide) ?_
          exact h.elim
      · have h := h.2 c
        refine xw_goto hf (pc := 919) dL_law_919 (tgt := 2681) rfl ?_
        refine xw_L [2, 3, 4, 5, 6] rfl ?_
        exact hK2681 _ _ _ _ hk _ _ _ _ _ _ _ _ h
    · have h := h.2 c
      refine xw_iconst hf (pc := 901) dL_law_901 (v := 0) (by decide) ?_
      exact h.elim
set_option maxHeartbeats 4000000 in
set_option maxRecDepth 100000 in
theorem w_L_law_L922 {x : Cx} {mc ms : Nat} (hf : fx x (rm_L_law) RL cL_law wsL_law) (hn : xn x = 8) {k0 n0 rc rs : Nat} (hk : k0 + rc ≤ (rm_L_law).cells ∧ n0 + rs ≤ (rm_L_law).slots) (a0 a1 a2 a3 a4 a5 a6 a7 a8 a9 a10 a11 a12 a13 a14 a15 a16 a17 a18 a19 a20 a21 a22 a23 a24 a25 a26 a27 a28 a29 a30 a31 a32 a33 a34 a35 a36 a37 a38 a39 ab : Nat) (z4 : Int32) (v8 : Int32) (v20 : Int32) (v21 : Int32) (v22 : Int32) (v24 : Int32) (v46 : Nat) (v47 : Nat → Int32) (v0 : Int32) (v1 : Nat → Int64) (v2 : Int32) (v3 : Nat → Int64) (v4 : Nat → Int32) (v6 : Nat → Int32) (v7 : Nat → Int32) (v10 : Nat → Int32) (v11 : Int32) (v12 : Int32) (v13 : Nat → Int32) (v14 : Int32) (v15 : Nat → Int64) (v16 : Int32) (v17 : Nat → Int64) (v25 : Nat → Int64) (v27 : Nat → Int32) (v29 : Nat → Int32) (v30 : Nat) (v31 : Nat) (v32 : Nat → Int64) (v33 : Nat) (v34 : Nat) (v35 : Nat → Int32) (v36 : Nat) (v37 : Nat) (v38 : Nat → Int32) (v41 : Nat → Int32) (v42 : Nat → Int32) (v43 : Nat → Int32) (v45 : ZL) {K2681 : Nat → Nat → (Nat → Int32) → (Nat → Int32) → (Nat → Int32) → Int32 → Int32 → (Nat → Int32) → (Nat → Int32) → (Nat → Int32) → (Nat → Int32) → (Nat → Int64) → Prop} (hst : (xl x).stackTraces = false) (hX : sX x ab v46 v47)
    (n : Nat) (v5 : Nat → Int32) (v9 : Nat → Int32) (v18 : Nat → Int32) (v19 : Int32) (v23 : Int32) (v26 : Nat → Int32) (v28 : Nat → Int32) (v39 : Nat → Int32) (v40 : Nat → Int32) (v44 : Nat → Int64) (h : P_L_law_L922 z4 v8 v20 v21 v22 v24 v46 v47 K2681 n rc rs v5 v9 v18 v19 v23 v26 v28 v39 v40 v44)
    (hK2681 : ∀ (k0 n0 rc rs : Nat), k0 + rc ≤ (rm_L_law).cells ∧ n0 + rs ≤ (rm_L_law).slots → ∀ (uv5 : Nat → Int32), ∀ (uv9 : Nat → Int32), ∀ (uv18 : Nat → Int32), ∀ (uv19 : Int32), ∀ (uv23 : Int32), ∀ (uv26 : Nat → Int32), ∀ (uv28 : Nat → Int32), ∀ (uv39 : Nat → Int32), ∀ (uv40 : Nat → Int32), ∀ (uv44 : Nat → Int64), K2681 rc rs uv5 uv9 uv18 uv19 uv23 uv26 uv28 uv39 uv40 uv44 → ww x (W_L_law (xg x) a0 a1 a2 a3 a4 a5 a6 a7 a8 a9 a10 a11 a12 a13 a14 a15 a16 a17 a18 a19 a20 a21 a22 a23 a24 a25 a26 a27 a28 a29 a30 a31 a32 a33 a34 a35 a36 a37 a38 a39 ab v0 v1 v2 v3 v4 uv5 v6 v7 v8 uv9 v10 v11 v12 v13 v14 v15 v16 v17 uv18 uv19 v20 v21 v22 uv23 v24 v25 uv26 v27 uv28 v29 v30 v31 v32 v33 v34 v35 v36 v37 v38 uv39 uv40 v41 v42 v43 uv44 v46 v47 ++ ZP (xg x) a39 v45) [(0, .ref ab), (1, .ref a0), (2, .ref a27), (3, .ref a38), (4, .int z4)] k0 n0 2681 []) :
    ww x (W_L_law (xg x) a0 a1 a2 a3 a4 a5 a6 a7 a8 a9 a10 a11 a12 a13 a14 a15 a16 a17 a18 a19 a20 a21 a22 a23 a24 a25 a26 a27 a28 a29 a30 a31 a32 a33 a34 a35 a36 a37 a38 a39 ab v0 v1 v2 v3 v4 v5 v6 v7 v8 v9 v10 v11 v12 v13 v14 v15 v16 v17 v18 v19 v20 v21 v22 v23 v24 v25 v26 v27 v28 v29 v30 v31 v32 v33 v34 v35 v36 v37 v38 v39 v40 v41 v42 v43 v44 v46 v47 ++ ZP (xg x) a39 v45) [(0, .ref ab), (1, .ref a0), (2, .ref a27), (3, .ref a38), (4, .int z4)] k0 n0 922 [] := by
  induction n generalizing k0 n0 rc rs v5 v9 v18 v19 v23 v26 v28 v39 v40 v44 with
  | zero => exact h.elim
  | succ n ih =>
    unfold P_L_law_L922 at h
    refine xw_aload_n hf (pc := 922) dL_law_922 rfl 1 rfl ?_
    refine xw_aload_n hf (pc := 923) dL_law_923 rfl 0 rfl ?_
    refine xw_iload hf (pc := 924) dL_law_924 4 rfl ?_
    refine xw_iconst hf (pc := 926) dL_law_926 (v := 1) (by decide) ?_
    refine xw_iadd hf (pc := 927) dL_law_927 ?_
    refine xw_sald hf hX dL_law_928 h.1 ?_
    have h := h.2
    refine xw_i2l hf (pc := 929) dL_law_929 ?_
    refine xw_bipush hf (pc := 930) dL_law_930 (v := 32) (by decide) ?_
    refine xw_lshl hf (pc := 932) dL_law_932 ?_
    refine xw_aload_n hf (pc := 933) dL_law_933 rfl 0 rfl ?_
    refine xw_iload hf (pc := 934) dL_law_934 4 rfl ?_
    refine xw_iconst hf (pc := 936) dL_law_936 (v := 2) (by decide) ?_
    refine xw_iadd hf (pc := 937) dL_law_937 ?_
    refine xw_sald hf hX dL_law_938 h.1 ?_
    have h := h.2
    refine xw_i2l hf (pc := 939) dL_law_939 ?_
    refine xw_ldc2 hf (pc := 940) dL_law_940 mw_L_law_0 ?_
    refine xw_land hf (pc := 943) dL_law_943 ?_
    refine xw_lor hf (pc := 944) dL_law_944 ?_
    refine xw_aload_n hf (pc := 945) dL_law_945 rfl 0 rfl ?_
    refine xw_iload hf (pc := 946) dL_law_946 4 rfl ?_
    refine xw_iconst hf (pc := 948) dL_law_948 (v := 3) (by decide) ?_
    refine xw_iadd hf (pc := 949) dL_law_949 ?_
    refine xw_sald hf hX dL_law_950 h.1 ?_
    have h := h.2
    refine xw_aload_n hf (pc := 951) dL_law_951 rfl 3 rfl ?_
    obtain ⟨mc202, ms203, ⟨hb1, hb2⟩, h⟩ := h
    refine xw_callSW hf (pc := 952) (nA := 4) (Xr := [(a1, .inr (2, [.ref a2, .ref a4, .ref a6])), (a2, .inr (7, [.ref a3, .int v0])), (a3, .inl (gJ (xg x), 60, .inr (.inl v1))), (a4, .inr (7, [.ref a5, .int v2])), (a5, .inl (gJ (xg x), 60, .inr (.inl v3))), (a6, .inr (3, [.ref a7])), (a7, .inl (gI (xg x), 32, .inl v4)), (a11, .inl (gI (xg x), 32, .inl v6)), (a12, .inl (gI (xg x), 32, .inl v7)), (a16, .inr (3, [.ref a17])), (a17, .inl (gI (xg x), 32, .inl v10)), (a18, .inr (4, [.ref a19, .ref a21, .ref a23, .int v11, .int v12])), (a19, .inr (3, [.ref a20])), (a20, .inl (gI (xg x), 32, .inl v13)), (a21, .inr (7, [.ref a22, .int v14])), (a22, .inl (gJ (xg x), 60, .inr (.inl v15))), (a23, .inr (7, [.ref a24, .int v16])), (a24, .inl (gJ (xg x), 60, .inr (.inl v17))), (a27, .inr (9, [.int v19, .ref a28, .int v20, .ref a29, .ref a30, .ref a31, .ref a32, .ref v30, .ref v33, .ref v36, .int v21, .int v22, .ref a33, .int v23, .ref a34, .ref a35, .ref a36, .ref a37, .int v24])), (a28, .inl (gJ (xg x), 60, .inr (.inl v25))), (a29, .inl (gI (xg x), 27, .inl v26)), (a30, .inl (gI (xg x), 27, .inl v27)), (a31, .inl (gI (xg x), 27, .inl v28)), (a32, .inl (gI (xg x), 27, .inl v29)), (v30, .inl (gJ (xg x), v31, .inr (.inl v32))), (v33, .inl (gI (xg x), v34, .inl v35)), (v36, .inl (gZ (xg x), v37, .inl v38)), (a33, .inl (gI (xg x), 12, .inl v39)), (a34, .inl (gI (xg x), 27, .inl v40)), (a35, .inl (gI (xg x), 27, .inl v41)), (a36, .inl (gI (xg x), 60, .inl v42)), (a37, .inl (gI (xg x), 3, .inl v43))] ++ ZP (xg x) a39 v45) (rest := []) (c_L_cut (xl x) (xg x) hst a0 a8 a9 a10 a13 a14 a15 a25 a26 a38 a1 a18 a11 a12 a39 a16 v5 v8 v9 v18 v44 ((((v47 (z4 + 1).toNatClampNeg).toInt64) <<< ((32 : Int32).toInt64 &&& 63)) ||| (((v47 (z4 + 2).toNatClampNeg).toInt64) &&& 4294967295)) (v47 (z4 + 3).toNatClampNeg) h) gL_law_L_cut (by rfl) rfl (by decide +kernel) ⟨⟨(Nat.le_of_ble_eq_true rfl), (Nat.le_of_ble_eq_true rfl)⟩, (Nat.le_trans (show k0 + 3 ≤ k0 + rc by omega) hk.1), (Nat.le_trans (show n0 + 18 ≤ n0 + rs by omega) hk.2)⟩ (Nat.le_of_ble_eq_true rfl) (sb_zr (sb_of [0, 8, 9, 10, 13, 14, 15, 25, 26, 41, 1, 2, 3, 4, 5, 6, 7, 11, 12, 16, 17, 18, 19, 20, 21, 22, 23, 24, 27, 28, 29, 30, 31, 32, 33, 34, 35, 36, 37, 38, 39, 40] rfl rfl)) rfl dL_law_952 (fun v X1 hp => ?_)
    obtain ⟨r197, w198, w199, w200, w201, rfl, rfl, h⟩ := hp
    have hk : k0 + 3 + mc202 ≤ (rm_L_law).cells ∧ n0 + 18 + ms203 ≤ (rm_L_law).slots := ⟨Nat.le_trans (show k0 + 3 + mc202 ≤ k0 + rc by omega) hk.1, Nat.le_trans (show n0 + 18 + ms203 ≤ n0 + rs by omega) hk.2⟩
    refine xw_X (sb_rz (sb_of [0, 10, 11, 12, 13, 14, 15, 16, 1, 2, 3, 17, 18, 4, 5, 6, 19, 20, 21, 22, 23, 24, 25, 26, 27, 7, 8, 28, 29, 30, 31, 32, 33, 34, 35, 36, 37, 38, 39, 40, 41, 9] rfl rfl)) (show ww x (W_L_law (xg x) a0 a1 a2 a3 a4 a5 a6 a7 a8 a9 a10 a11 a12 a13 a14 a15 a16 a17 a18 a19 a20 a21 a22 a23 a24 a25 a26 a27 a28 a29 a30 a31 a32 a33 a34 a35 a36 a37 a38 a39 ab v0 v1 v2 v3 v4 w198 v6 v7 v8 w199 v10 v11 v12 v13 v14 v15 v16 v17 w200 v19 v20 v21 v22 v23 v24 v25 v26 v27 v28 v29 v30 v31 v32 v33 v34 v35 v36 v37 v38 v39 v40 v41 v42 v43 w201 v46 v47 ++ ZP (xg x) a39 v45) [(0, .ref ab), (1, .ref a0), (2, .ref a27), (3, .ref a38), (4, .int z4)] (k0 + 3) (n0 + 18) 955 [.int r197] from ?_)
    refine xw_istore hf (pc := 955) dL_law_955 [(5, .int r197), (0, .ref ab), (1, .ref a0), (2, .ref a27), (3, .ref a38), (4, .int z4)] hn (by decide) rfl ?_
    refine xw_aload_n hf (pc := 957) dL_law_957 rfl 3 rfl ?_
    refine xw_aload_n hf (pc := 958) dL_law_958 rfl 1 rfl ?_
    refine xw_iload hf (pc := 959) dL_law_959 5 rfl ?_
    refine xw_iconst hf (pc := 961) dL_law_961 (v := 1) (by decide) ?_
    refine xw_iadd hf (pc := 962) dL_law_962 ?_
    refine xw_sald hf hX dL_law_963 h.1 ?_
    have h := h.2
    refine xw_i2l hf (pc := 964) dL_law_964 ?_
    refine xw_bipush hf (pc := 965) dL_law_965 (v := 32) (by decide) ?_
    refine xw_lshl hf (pc := 967) dL_law_967 ?_
    refine xw_aload_n hf (pc := 968) dL_law_968 rfl 1 rfl ?_
    refine xw_iload hf (pc := 969) dL_law_969 5 rfl ?_
    refine xw_iconst hf (pc := 971) dL_law_971 (v := 2) (by decide) ?_
    refine xw_iadd hf (pc := 972) dL_law_972 ?_
    refine xw_sald hf hX dL_law_973 h.1 ?_
    have h := h.2
    refine xw_i2l hf (pc := 974) dL_law_974 ?_
    refine xw_ldc2 hf (pc := 975) dL_law_975 mw_L_law_0 ?_
    refine xw_land hf (pc := 978) dL_law_978 ?_
    refine xw_lor hf (pc := 979) dL_law_979 ?_
    refine xw_aload_n hf (pc := 980) dL_law_980 rfl 1 rfl ?_
    refine xw_iload hf (pc := 981) dL_law_981 5 rfl ?_
    refine xw_iconst hf (pc := 983) dL_law_983 (v := 3) (by decide) ?_
    refine xw_iadd hf (pc := 984) dL_law_984 ?_
    refine xw_sald hf hX dL_law_985 h.1 ?_
    have h := h.2
    refine xw_callV hf (pc := 986) (nA := 2) (Xr := [(a0, .inr (8, [.ref a1, .ref a8, .ref a13, .ref a18, .ref a25])), (a1, .inr (2, [.ref a2, .ref a4, .ref a6])), (a2, .inr (7, [.ref a3, .int v0])), (a3, .inl (gJ (xg x), 60, .inr (.inl v1))), (a4, .inr (7, [.ref a5, .int v2])), (a5, .inl (gJ (xg x), 60, .inr (.inl v3))), (a6, .inr (3, [.ref a7])), (a7, .inl (gI (xg x), 32, .inl v4)), (a8, .inr (6, [.ref a9, .ref a11, .ref a12])), (a9, .inr (3, [.ref a10])), (a10, .inl (gI (xg x), 32, .inl w198)), (a11, .inl (gI (xg x), 32, .inl v6)), (a12, .inl (gI (xg x), 32, .inl v7)), (a13, .inr (1, [.ref a39, .ref a14, .ref a16, .int v8])), (a14, .inr (3, [.ref a15])), (a15, .inl (gI (xg x), 32, .inl w199)), (a16, .inr (3, [.ref a17])), (a17, .inl (gI (xg x), 32, .inl v10)), (a18, .inr (4, [.ref a19, .ref a21, .ref a23, .int v11, .int v12])), (a19, .inr (3, [.ref a20])), (a20, .inl (gI (xg x), 32, .inl v13)), (a21, .inr (7, [.ref a22, .int v14])), (a22, .inl (gJ (xg x), 60, .inr (.inl v15))), (a23, .inr (7, [.ref a24, .int v16])), (a24, .inl (gJ (xg x), 60, .inr (.inl v17))), (a25, .inr (3, [.ref a26])), (a26, .inl (gI (xg x), 32, .inl w200)), (a28, .inl (gJ (xg x), 60, .inr (.inl v25))), (a30, .inl (gI (xg x), 27, .inl v27)), (a32, .inl (gI (xg x), 27, .inl v29)), (v30, .inl (gJ (xg x), v31, .inr (.inl v32))), (v33, .inl (gI (xg x), v34, .inl v35)), (v36, .inl (gZ (xg x), v37, .inl v38)), (a35, .inl (gI (xg x), 27, .inl v41)), (a36, .inl (gI (xg x), 60, .inl v42)), (a37, .inl (gI (xg x), 3, .inl v43)), (a38, .inl (gJ (xg x), 1, .inr (.inl w201)))] ++ ZP (xg x) a39 v45) (rest := []) (T := TX9) (c_X9_cut (xl x) (xg x) a27 a29 a31 a33 a34 a28 a30 a32 v30 v33 v36 a35 a36 a37 v19 v20 v21 v22 v23 v24 v26 v28 v39 v40 ((((v47 (z4 + 1).toNatClampNeg).toInt64) <<< ((32 : Int32).toInt64 &&& 63)) ||| (((v47 (z4 + 2).toNatClampNeg).toInt64) &&& 4294967295)) (v47 (z4 + 3).toNatClampNeg) h) gL_law_X9_cut (by rfl) rfl rfl (by decide +kernel) ⟨⟨(Nat.le_of_ble_eq_true rfl), (Nat.le_of_ble_eq_true rfl)⟩, (Nat.le_trans (Nat.le_add_right _ _) hk.1), (Nat.le_trans (Nat.le_add_right _ _) hk.2)⟩ (Nat.le_of_ble_eq_true rfl) rfl rfl (sb_zr (sb_of [27, 29, 31, 36, 37, 0, 1, 2, 3, 4, 5, 6, 7, 8, 9, 10, 11, 12, 13, 14, 15, 16, 17, 18, 19, 20, 21, 22, 23, 24, 25, 26, 28, 30, 32, 33, 34, 35, 38, 39, 40, 41] rfl rfl)) rfl dL_law_986 (fun v X1 hp => ?_)
    obtain ⟨r204, w205, w206, w207, w208, w209, w210, rfl, rfl, h⟩ := hp
    refine xw_X (sb_rz (sb_of [5, 6, 7, 8, 9, 10, 11, 12, 13, 14, 15, 16, 17, 18, 19, 20, 21, 22, 23, 24, 25, 26, 27, 28, 29, 30, 31, 0, 32, 1, 33, 2, 34, 35, 36, 37, 3, 4, 38, 39, 40, 41] rfl rfl)) (show ww x (W_L_law (xg x) a0 a1 a2 a3 a4 a5 a6 a7 a8 a9 a10 a11 a12 a13 a14 a15 a16 a17 a18 a19 a20 a21 a22 a23 a24 a25 a26 a27 a28 a29 a30 a31 a32 a33 a34 a35 a36 a37 a38 a39 ab v0 v1 v2 v3 v4 w198 v6 v7 v8 w199 v10 v11 v12 v13 v14 v15 v16 v17 w200 w205 v20 v21 v22 w206 v24 v25 w207 v27 w208 v29 v30 v31 v32 v33 v34 v35 v36 v37 v38 w209 w210 v41 v42 v43 w201 v46 v47 ++ ZP (xg x) a39 v45) [(5, .int r197), (0, .ref ab), (1, .ref a0), (2, .ref a27), (3, .ref a38), (4, .int z4)] (k0 + 3) (n0 + 18) 989 [.int r204] from ?_)
    refine xw_istore hf (pc := 989) dL_law_989 [(6, .int r204), (5, .int r197), (0, .ref ab), (1, .ref a0), (2, .ref a27), (3, .ref a38), (4, .int z4)] hn (by decide) rfl ?_
    refine xw_aload_n hf (pc := 991) dL_law_991 rfl 4 rfl ?_
    refine xw_callV hf (pc := 992) (nA := 0) (Xr := [(a0, .inr (8, [.ref a1, .ref a8, .ref a13, .ref a18, .ref a25])), (a1, .inr (2, [.ref a2, .ref a4, .ref a6])), (a2, .inr (7, [.ref a3, .int v0])), (a3, .inl (gJ (xg x), 60, .inr (.inl v1))), (a4, .inr (7, [.ref a5, .int v2])), (a5, .inl (gJ (xg x), 60, .inr (.inl v3))), (a6, .inr (3, [.ref a7])), (a7, .inl (gI (xg x), 32, .inl v4)), (a8, .inr (6, [.ref a9, .ref a11, .ref a12])), (a9, .inr (3, [.ref a10])), (a10, .inl (gI (xg x), 32, .inl w198)), (a11, .inl (gI (xg x), 32, .inl v6)), (a12, .inl (gI (xg x), 32, .inl v7)), (a13, .inr (1, [.ref a39, .ref a14, .ref a16, .int v8])), (a14, .inr (3, [.ref a15])), (a15, .inl (gI (xg x), 32, .inl w199)), (a16, .inr (3, [.ref a17])), (a17, .inl (gI (xg x), 32, .inl v10)), (a18, .inr (4, [.ref a19, .ref a21, .ref a23, .int v11, .int v12])), (a19, .inr (3, [.ref a20])), (a20, .inl (gI (xg x), 32, .inl v13)), (a21, .inr (7, [.ref a22, .int v14])), (a22, .inl (gJ (xg x), 60, .inr (.inl v15))), (a23, .inr (7, [.ref a24, .int v16])), (a24, .inl (gJ (xg x), 60, .inr (.inl v17))), (a25, .inr (3, [.ref a26])), (a26, .inl (gI (xg x), 32, .inl w200)), (a28, .inl (gJ (xg x), 60, .inr (.inl v25))), (a29, .inl (gI (xg x), 27, .inl w207)), (a30, .inl (gI (xg x), 27, .inl v27)), (a31, .inl (gI (xg x), 27, .inl w208)), (a32, .inl (gI (xg x), 27, .inl v29)), (v30, .inl (gJ (xg x), v31, .inr (.inl v32))), (v33, .inl (gI (xg x), v34, .inl v35)), (v36, .inl (gZ (xg x), v37, .inl v38)), (a33, .inl (gI (xg x), 12, .inl w209)), (a34, .inl (gI (xg x), 27, .inl w210)), (a35, .inl (gI (xg x), 27, .inl v41)), (a36, .inl (gI (xg x), 60, .inl v42)), (a37, .inl (gI (xg x), 3, .inl v43)), (a38, .inl (gJ (xg x), 1, .inr (.inl w201)))] ++ ZP (xg x) a39 v45) (rest := []) (T := TX9) (c_X9_thrown (xl x) (xg x) a27 a28 a29 a30 a31 a32 v30 v33 v36 a33 a34 a35 a36 a37 w205 v20 v21 v22 w206 v24 h) gL_law_X9_thrown (by rfl) rfl rfl (by decide +kernel) ⟨⟨(Nat.le_of_ble_eq_true rfl), (Nat.le_of_ble_eq_true rfl)⟩, (Nat.le_trans (Nat.le_add_right _ _) hk.1), (Nat.le_trans (Nat.le_add_right _ _) hk.2)⟩ (Nat.le_of_ble_eq_true rfl) rfl rfl (sb_zr (sb_of [27, 0, 1, 2, 3, 4, 5, 6, 7, 8, 9, 10, 11, 12, 13, 14, 15, 16, 17, 18, 19, 20, 21, 22, 23, 24, 25, 26, 28, 29, 30, 31, 32, 33, 34, 35, 36, 37, 38, 39, 40, 41] rfl rfl)) rfl dL_law_992 (fun v X1 hp => ?_)
    obtain ⟨r211, rfl, rfl, h⟩ := hp
    refine xw_X (sb_rz (sb_of [1, 2, 3, 4, 5, 6, 7, 8, 9, 10, 11, 12, 13, 14, 15, 16, 17, 18, 19, 20, 21, 22, 23, 24, 25, 26, 27, 0, 28, 29, 30, 31, 32, 33, 34, 35, 36, 37, 38, 39, 40, 41] rfl rfl)) (show ww x (W_L_law (xg x) a0 a1 a2 a3 a4 a5 a6 a7 a8 a9 a10 a11 a12 a13 a14 a15 a16 a17 a18 a19 a20 a21 a22 a23 a24 a25 a26 a27 a28 a29 a30 a31 a32 a33 a34 a35 a36 a37 a38 a39 ab v0 v1 v2 v3 v4 w198 v6 v7 v8 w199 v10 v11 v12 v13 v14 v15 v16 v17 w200 w205 v20 v21 v22 w206 v24 v25 w207 v27 w208 v29 v30 v31 v32 v33 v34 v35 v36 v37 v38 w209 w210 v41 v42 v43 w201 v46 v47 ++ ZP (xg x) a39 v45) [(6, .int r204), (5, .int r197), (0, .ref ab), (1, .ref a0), (2, .ref a27), (3, .ref a38), (4, .int z4)] (k0 + 3) (n0 + 18) 995 [.int r211] from ?_)
    refine xw_iload hf (pc := 995) dL_law_995 1 rfl ?_
    refine xw_icmp_eq hf (pc := 997) dL_law_997 (tgt := 1002) rfl ⟨fun c => ?_, fun c => ?_⟩
    · have h := h.1 c
      refine xw_iload hf (pc := 1002) dL_law_1002 1 rfl ?_
      refine xw_if_ne hf (pc := 1004) dL_law_1004 (c := r197 = 0) Iff.rfl (tgt := 1019) rfl ⟨fun c => ?_, fun c => ?_⟩
      · have h := h.1 c
        refine xw_aload_n hf (pc := 1007) dL_law_1007 rfl 5 rfl ?_
        refine xw_iconst hf (pc := 1008) dL_law_1008 (v := 0) (by decide) ?_
        refine xw_lald hf (pc := 1009) dL_law_1009 41 rfl h.1 ?_
        have h := h.2
        refine xw_iload hf (pc := 1010) dL_law_1010 0 rfl ?_
        refine xw_i2l hf (pc := 1012) dL_law_1012 ?_
        refine xw_lcmp hf (pc := 1013) dL_law_1013 ?_
        refine xw_if_eq hf (pc := 1014) dL_law_1014 (c := (w201 (0 : Int32).toNatClampNeg) = r204.toInt64) (lc_eq _ _) (tgt := 1019) rfl ⟨fun c => ?_, fun c => ?_⟩
        · have h := h.1 c
          refine xw_goto hf (pc := 1019) dL_law_1019 (tgt := 2681) rfl ?_
          refine xw_L [2, 3, 4, 5, 6] rfl ?_
          exact hK2681 _ _ _ _ hk _ _ _ _ _ _ _ _ _ _ h
        · have h := h.2 c
          refine xw_iconst hf (pc := 1017) dL_law_1017 (v := 0) (by decide) ?_
          exact h.elim
      · have h := h.2 c
        refine xw_goto hf (pc := 1019) dL_law_1019 (tgt := 2681) rfl ?_
        refine xw_L [2, 3, 4, 5, 6] rfl ?_
        exact hK2681 _ _ _ _ hk _ _ _ _ _ _ _ _ _ _ h
    · have h := h.2 c
      refine xw_iconst hf (pc := 1000) dL_law_1000 (v := 0) (by decide) ?_
      exact h.elim
set_option maxHeartbeats 4000000 in
set_option maxRecDepth 100000 in
theorem w_L_law_L1022 {x : Cx} {mc ms : Nat} (hf : fx x (rm_L_law) RL cL_law wsL_law) (hn : xn x = 8) {k0 n0 rc rs : Nat} (hk : k0 + rc ≤ (rm_L_law).cells ∧ n0 + rs ≤ (rm_L_law).slots) (a0 a1 a2 a3 a4 a5 a6 a7 a8 a9 a10 a11 a12 a13 a14 a15 a16 a17 a18 a19 a20 a21 a22 a23 a24 a25 a26 a27 a28 a29 a30 a31 a32 a33 a34 a35 a36 a37 a38 a39 ab : Nat) (z4 : Int32) (v5 : Nat → Int32) (v20 : Int32) (v21 : Int32) (v22 : Int32) (v23 : Int32) (v24 : Int32) (v26 : Nat → Int32) (v46 : Nat) (v47 : Nat → Int32) (v0 : Int32) (v1 : Nat → Int64) (v2 : Int32) (v3 : Nat → Int64) (v4 : Nat → Int32) (v6 : Nat → Int32) (v7 : Nat → Int32) (v8 : Int32) (v9 : Nat → Int32) (v10 : Nat → Int32) (v11 : Int32) (v12 : Int32) (v13 : Nat → Int32) (v14 : Int32) (v15 : Nat → Int64) (v16 : Int32) (v17 : Nat → Int64) (v18 : Nat → Int32) (v25 : Nat → Int64) (v27 : Nat → Int32) (v28 : Nat → Int32) (v29 : Nat → Int32) (v30 : Nat) (v31 : Nat) (v32 : Nat → Int64) (v33 : Nat) (v34 : Nat) (v35 : Nat → Int32) (v36 : Nat) (v37 : Nat) (v38 : Nat → Int32) (v39 : Nat → Int32) (v40 : Nat → Int32) (v41 : Nat → Int32) (v42 : Nat → Int32) (v43 : Nat → Int32) (v45 : ZL) {K2681 : Nat → Nat → Int32 → (Nat → Int64) → Prop} (hst : (xl x).stackTraces = false) (hX : sX x ab v46 v47)
    (n : Nat) (v19 : Int32) (v44 : Nat → Int64) (h : P_L_law_L1022 z4 v5 v20 v21 v22 v23 v24 v26 v46 v47 K2681 n rc rs v19 v44)
    (hK2681 : ∀ (k0 n0 rc rs : Nat), k0 + rc ≤ (rm_L_law).cells ∧ n0 + rs ≤ (rm_L_law).slots → ∀ (uv19 : Int32), ∀ (uv44 : Nat → Int64), K2681 rc rs uv19 uv44 → ww x (W_L_law (xg x) a0 a1 a2 a3 a4 a5 a6 a7 a8 a9 a10 a11 a12 a13 a14 a15 a16 a17 a18 a19 a20 a21 a22 a23 a24 a25 a26 a27 a28 a29 a30 a31 a32 a33 a34 a35 a36 a37 a38 a39 ab v0 v1 v2 v3 v4 v5 v6 v7 v8 v9 v10 v11 v12 v13 v14 v15 v16 v17 v18 uv19 v20 v21 v22 v23 v24 v25 v26 v27 v28 v29 v30 v31 v32 v33 v34 v35 v36 v37 v38 v39 v40 v41 v42 v43 uv44 v46 v47 ++ ZP (xg x) a39 v45) [(0, .ref ab), (1, .ref a0), (2, .ref a27), (3, .ref a38), (4, .int z4)] k0 n0 2681 []) :
    ww x (W_L_law (xg x) a0 a1 a2 a3 a4 a5 a6 a7 a8 a9 a10 a11 a12 a13 a14 a15 a16 a17 a18 a19 a20 a21 a22 a23 a24 a25 a26 a27 a28 a29 a30 a31 a32 a33 a34 a35 a36 a37 a38 a39 ab v0 v1 v2 v3 v4 v5 v6 v7 v8 v9 v10 v11 v12 v13 v14 v15 v16 v17 v18 v19 v20 v21 v22 v23 v24 v25 v26 v27 v28 v29 v30 v31 v32 v33 v34 v35 v36 v37 v38 v39 v40 v41 v42 v43 v44 v46 v47 ++ ZP (xg x) a39 v45) [(0, .ref ab), (1, .ref a0), (2, .ref a27), (3, .ref a38), (4, .int z4)] k0 n0 1022 [] := by
  induction n generalizing k0 n0 rc rs v19 v44 with
  | zero => exact h.elim
  | succ n ih =>
    unfold P_L_law_L1022 at h
    refine xw_aload_n hf (pc := 1022) dL_law_1022 rfl 1 rfl ?_
    refine xw_aload_n hf (pc := 1023) dL_law_1023 rfl 0 rfl ?_
    refine xw_iload hf (pc := 1024) dL_law_1024 4 rfl ?_
    refine xw_iconst hf (pc := 1026) dL_law_1026 (v := 1) (by decide) ?_
    refine xw_iadd hf (pc := 1027) dL_law_1027 ?_
    refine xw_sald hf hX dL_law_1028 h.1 ?_
    have h := h.2
    refine xw_aload_n hf (pc := 1029) dL_law_1029 rfl 3 rfl ?_
    obtain ⟨mc228, ms229, ⟨hb1, hb2⟩, h⟩ := h
    refine xw_callSW hf (pc := 1030) (nA := 3) (Xr := [(a1, .inr (2, [.ref a2, .ref a4, .ref a6])), (a2, .inr (7, [.ref a3, .int v0])), (a3, .inl (gJ (xg x), 60, .inr (.inl v1))), (a4, .inr (7, [.ref a5, .int v2])), (a5, .inl (gJ (xg x), 60, .inr (.inl v3))), (a6, .inr (3, [.ref a7])), (a7, .inl (gI (xg x), 32, .inl v4)), (a11, .inl (gI (xg x), 32, .inl v6)), (a12, .inl (gI (xg x), 32, .inl v7)), (a13, .inr (1, [.ref a39, .ref a14, .ref a16, .int v8])), (a14, .inr (3, [.ref a15])), (a15, .inl (gI (xg x), 32, .inl v9)), (a16, .inr (3, [.ref a17])), (a17, .inl (gI (xg x), 32, .inl v10)), (a18, .inr (4, [.ref a19, .ref a21, .ref a23, .int v11, .int v12])), (a19, .inr (3, [.ref a20])), (a20, .inl (gI (xg x), 32, .inl v13)), (a21, .inr (7, [.ref a22, .int v14])), (a22, .inl (gJ (xg x), 60, .inr (.inl v15))), (a23, .inr (7, [.ref a24, .int v16])), (a24, .inl (gJ (xg x), 60, .inr (.inl v17))), (a25, .inr (3, [.ref a26])), (a26, .inl (gI (xg x), 32, .inl v18)), (a27, .inr (9, [.int v19, .ref a28, .int v20, .ref a29, .ref a30, .ref a31, .ref a32, .ref v30, .ref v33, .ref v36, .int v21, .int v22, .ref a33, .int v23, .ref a34, .ref a35, .ref a36, .ref a37, .int v24])), (a28, .inl (gJ (xg x), 60, .inr (.inl v25))), (a29, .inl (gI (xg x), 27, .inl v26)), (a30, .inl (gI (xg x), 27, .inl v27)), (a31, .inl (gI (xg x), 27, .inl v28)), (a32, .inl (gI (xg x), 27, .inl v29)), (v30, .inl (gJ (xg x), v31, .inr (.inl v32))), (v33, .inl (gI (xg x), v34, .inl v35)), (v36, .inl (gZ (xg x), v37, .inl v38)), (a33, .inl (gI (xg x), 12, .inl v39)), (a34, .inl (gI (xg x), 27, .inl v40)), (a35, .inl (gI (xg x), 27, .inl v41)), (a36, .inl (gI (xg x), 60, .inl v42)), (a37, .inl (gI (xg x), 3, .inl v43))] ++ ZP (xg x) a39 v45) (rest := []) (c_L_stockOf (xl x) (xg x) hst a0 a8 a9 a10 a38 a1 a13 a18 a25 a11 a12 v5 v44 (v47 (z4 + 1).toNatClampNeg) h) gL_law_L_stockOf (by rfl) rfl (by decide +kernel) ⟨⟨(Nat.le_of_ble_eq_true rfl), (Nat.le_of_ble_eq_true rfl)⟩, (Nat.le_trans (show k0 + 1 ≤ k0 + rc by omega) hk.1), (Nat.le_trans (show n0 + 6 ≤ n0 + rs by omega) hk.2)⟩ (Nat.le_of_ble_eq_true rfl) (sb_zr (sb_of [0, 8, 9, 10, 41, 1, 2, 3, 4, 5, 6, 7, 11, 12, 13, 14, 15, 16, 17, 18, 19, 20, 21, 22, 23, 24, 25, 26, 27, 28, 29, 30, 31, 32, 33, 34, 35, 36, 37, 38, 39, 40] rfl rfl)) rfl dL_law_1030 (fun v X1 hp => ?_)
    obtain ⟨r226, w227, rfl, rfl, h⟩ := hp
    have hk : k0 + 1 + mc228 ≤ (rm_L_law).cells ∧ n0 + 6 + ms229 ≤ (rm_L_law).slots := ⟨Nat.le_trans (show k0 + 1 + mc228 ≤ k0 + rc by omega) hk.1, Nat.le_trans (show n0 + 6 + ms229 ≤ n0 + rs by omega) hk.2⟩
    refine xw_X (sb_rz (sb_of [0, 5, 6, 7, 8, 9, 10, 11, 1, 2, 3, 12, 13, 14, 15, 16, 17, 18, 19, 20, 21, 22, 23, 24, 25, 26, 27, 28, 29, 30, 31, 32, 33, 34, 35, 36, 37, 38, 39, 40, 41, 4] rfl rfl)) (show ww x (W_L_law (xg x) a0 a1 a2 a3 a4 a5 a6 a7 a8 a9 a10 a11 a12 a13 a14 a15 a16 a17 a18 a19 a20 a21 a22 a23 a24 a25 a26 a27 a28 a29 a30 a31 a32 a33 a34 a35 a36 a37 a38 a39 ab v0 v1 v2 v3 v4 v5 v6 v7 v8 v9 v10 v11 v12 v13 v14 v15 v16 v17 v18 v19 v20 v21 v22 v23 v24 v25 v26 v27 v28 v29 v30 v31 v32 v33 v34 v35 v36 v37 v38 v39 v40 v41 v42 v43 w227 v46 v47 ++ ZP (xg x) a39 v45) [(0, .ref ab), (1, .ref a0), (2, .ref a27), (3, .ref a38), (4, .int z4)] (k0 + 1) (n0 + 6) 1033 [.int r226] from ?_)
    refine xw_istore hf (pc := 1033) dL_law_1033 [(5, .int r226), (0, .ref ab), (1, .ref a0), (2, .ref a27), (3, .ref a38), (4, .int z4)] hn (by decide) rfl ?_
    refine xw_aload_n hf (pc := 1035) dL_law_1035 rfl 3 rfl ?_
    refine xw_aload_n hf (pc := 1036) dL_law_1036 rfl 1 rfl ?_
    refine xw_iload hf (pc := 1037) dL_law_1037 5 rfl ?_
    refine xw_iconst hf (pc := 1039) dL_law_1039 (v := 1) (by decide) ?_
    refine xw_iadd hf (pc := 1040) dL_law_1040 ?_
    refine xw_sald hf hX dL_law_1041 h.1 ?_
    have h := h.2
    refine xw_callV hf (pc := 1042) (nA := 1) (Xr := [(a0, .inr (8, [.ref a1, .ref a8, .ref a13, .ref a18, .ref a25])), (a1, .inr (2, [.ref a2, .ref a4, .ref a6])), (a2, .inr (7, [.ref a3, .int v0])), (a3, .inl (gJ (xg x), 60, .inr (.inl v1))), (a4, .inr (7, [.ref a5, .int v2])), (a5, .inl (gJ (xg x), 60, .inr (.inl v3))), (a6, .inr (3, [.ref a7])), (a7, .inl (gI (xg x), 32, .inl v4)), (a8, .inr (6, [.ref a9, .ref a11, .ref a12])), (a9, .inr (3, [.ref a10])), (a10, .inl (gI (xg x), 32, .inl v5)), (a11, .inl (gI (xg x), 32, .inl v6)), (a12, .inl (gI (xg x), 32, .inl v7)), (a13, .inr (1, [.ref a39, .ref a14, .ref a16, .int v8])), (a14, .inr (3, [.ref a15])), (a15, .inl (gI (xg x), 32, .inl v9)), (a16, .inr (3, [.ref a17])), (a17, .inl (gI (xg x), 32, .inl v10)), (a18, .inr (4, [.ref a19, .ref a21, .ref a23, .int v11, .int v12])), (a19, .inr (3, [.ref a20])), (a20, .inl (gI (xg x), 32, .inl v13)), (a21, .inr (7, [.ref a22, .int v14])), (a22, .inl (gJ (xg x), 60, .inr (.inl v15))), (a23, .inr (7, [.ref a24, .int v16])), (a24, .inl (gJ (xg x), 60, .inr (.inl v17))), (a25, .inr (3, [.ref a26])), (a26, .inl (gI (xg x), 32, .inl v18)), (a28, .inl (gJ (xg x), 60, .inr (.inl v25))), (a30, .inl (gI (xg x), 27, .inl v27)), (a31, .inl (gI (xg x), 27, .inl v28)), (a32, .inl (gI (xg x), 27, .inl v29)), (v30, .inl (gJ (xg x), v31, .inr (.inl v32))), (v33, .inl (gI (xg x), v34, .inl v35)), (v36, .inl (gZ (xg x), v37, .inl v38)), (a33, .inl (gI (xg x), 12, .inl v39)), (a34, .inl (gI (xg x), 27, .inl v40)), (a35, .inl (gI (xg x), 27, .inl v41)), (a36, .inl (gI (xg x), 60, .inl v42)), (a37, .inl (gI (xg x), 3, .inl v43)), (a38, .inl (gJ (xg x), 1, .inr (.inl w227)))] ++ ZP (xg x) a39 v45) (rest := []) (T := TX9) (c_X9_stockOf (xl x) (xg x) a27 a29 a28 a30 a31 a32 v30 v33 v36 a33 a34 a35 a36 a37 v19 v20 v21 v22 v23 v24 v26 (v47 (z4 + 1).toNatClampNeg) h) gL_law_X9_stockOf (by rfl) rfl rfl (by decide +kernel) ⟨⟨(Nat.le_of_ble_eq_true rfl), (Nat.le_of_ble_eq_true rfl)⟩, (Nat.le_trans (Nat.le_add_right _ _) hk.1), (Nat.le_trans (Nat.le_add_right _ _) hk.2)⟩ (Nat.le_of_ble_eq_true rfl) rfl rfl (sb_zr (sb_of [27, 29, 0, 1, 2, 3, 4, 5, 6, 7, 8, 9, 10, 11, 12, 13, 14, 15, 16, 17, 18, 19, 20, 21, 22, 23, 24, 25, 26, 28, 30, 31, 32, 33, 34, 35, 36, 37, 38, 39, 40, 41] rfl rfl)) rfl dL_law_1042 (fun v X1 hp => ?_)
    obtain ⟨r230, w231, rfl, rfl, h⟩ := hp
    refine xw_X (sb_rz (sb_of [2, 3, 4, 5, 6, 7, 8, 9, 10, 11, 12, 13, 14, 15, 16, 17, 18, 19, 20, 21, 22, 23, 24, 25, 26, 27, 28, 0, 29, 1, 30, 31, 32, 33, 34, 35, 36, 37, 38, 39, 40, 41] rfl rfl)) (show ww x (W_L_law (xg x) a0 a1 a2 a3 a4 a5 a6 a7 a8 a9 a10 a11 a12 a13 a14 a15 a16 a17 a18 a19 a20 a21 a22 a23 a24 a25 a26 a27 a28 a29 a30 a31 a32 a33 a34 a35 a36 a37 a38 a39 ab v0 v1 v2 v3 v4 v5 v6 v7 v8 v9 v10 v11 v12 v13 v14 v15 v16 v17 v18 w231 v20 v21 v22 v23 v24 v25 v26 v27 v28 v29 v30 v31 v32 v33 v34 v35 v36 v37 v38 v39 v40 v41 v42 v43 w227 v46 v47 ++ ZP (xg x) a39 v45) [(5, .int r226), (0, .ref ab), (1, .ref a0), (2, .ref a27), (3, .ref a38), (4, .int z4)] (k0 + 1) (n0 + 6) 1045 [.int r230] from ?_)
    refine xw_istore hf (pc := 1045) dL_law_1045 [(6, .int r230), (5, .int r226), (0, .ref ab), (1, .ref a0), (2, .ref a27), (3, .ref a38), (4, .int z4)] hn (by decide) rfl ?_
    refine xw_aload_n hf (pc := 1047) dL_law_1047 rfl 4 rfl ?_
    refine xw_callV hf (pc := 1048) (nA := 0) (Xr := [(a0, .inr (8, [.ref a1, .ref a8, .ref a13, .ref a18, .ref a25])), (a1, .inr (2, [.ref a2, .ref a4, .ref a6])), (a2, .inr (7, [.ref a3, .int v0])), (a3, .inl (gJ (xg x), 60, .inr (.inl v1))), (a4, .inr (7, [.ref a5, .int v2])), (a5, .inl (gJ (xg x), 60, .inr (.inl v3))), (a6, .inr (3, [.ref a7])), (a7, .inl (gI (xg x), 32, .inl v4)), (a8, .inr (6, [.ref a9, .ref a11, .ref a12])), (a9, .inr (3, [.ref a10])), (a10, .inl (gI (xg x), 32, .inl v5)), (a11, .inl (gI (xg x), 32, .inl v6)), (a12, .inl (gI (xg x), 32, .inl v7)), (a13, .inr (1, [.ref a39, .ref a14, .ref a16, .int v8])), (a14, .inr (3, [.ref a15])), (a15, .inl (gI (xg x), 32, .inl v9)), (a16, .inr (3, [.ref a17])), (a17, .inl (gI (xg x), 32, .inl v10)), (a18, .inr (4, [.ref a19, .ref a21, .ref a23, .int v11, .int v12])), (a19, .inr (3, [.ref a20])), (a20, .inl (gI (xg x), 32, .inl v13)), (a21, .inr (7, [.ref a22, .int v14])), (a22, .inl (gJ (xg x), 60, .inr (.inl v15))), (a23, .inr (7, [.ref a24, .int v16])), (a24, .inl (gJ (xg x), 60, .inr (.inl v17))), (a25, .inr (3, [.ref a26])), (a26, .inl (gI (xg x), 32, .inl v18)), (a28, .inl (gJ (xg x), 60, .inr (.inl v25))), (a29, .inl (gI (xg x), 27, .inl v26)), (a30, .inl (gI (xg x), 27, .inl v27)), (a31, .inl (gI (xg x), 27, .inl v28)), (a32, .inl (gI (xg x), 27, .inl v29)), (v30, .inl (gJ (xg x), v31, .inr (.inl v32))), (v33, .inl (gI (xg x), v34, .inl v35)), (v36, .inl (gZ (xg x), v37, .inl v38)), (a33, .inl (gI (xg x), 12, .inl v39)), (a34, .inl (gI (xg x), 27, .inl v40)), (a35, .inl (gI (xg x), 27, .inl v41)), (a36, .inl (gI (xg x), 60, .inl v42)), (a37, .inl (gI (xg x), 3, .inl v43)), (a38, .inl (gJ (xg x), 1, .inr (.inl w227)))] ++ ZP (xg x) a39 v45) (rest := []) (T := TX9) (c_X9_thrown (xl x) (xg x) a27 a28 a29 a30 a31 a32 v30 v33 v36 a33 a34 a35 a36 a37 w231 v20 v21 v22 v23 v24 h) gL_law_X9_thrown (by rfl) rfl rfl (by decide +kernel) ⟨⟨(Nat.le_of_ble_eq_true rfl), (Nat.le_of_ble_eq_true rfl)⟩, (Nat.le_trans (Nat.le_add_right _ _) hk.1), (Nat.le_trans (Nat.le_add_right _ _) hk.2)⟩ (Nat.le_of_ble_eq_true rfl) rfl rfl (sb_zr (sb_of [27, 0, 1, 2, 3, 4, 5, 6, 7, 8, 9, 10, 11, 12, 13, 14, 15, 16, 17, 18, 19, 20, 21, 22, 23, 24, 25, 26, 28, 29, 30, 31, 32, 33, 34, 35, 36, 37, 38, 39, 40, 41] rfl rfl)) rfl dL_law_1048 (fun v X1 hp => ?_)
    obtain ⟨r232, rfl, rfl, h⟩ := hp
    refine xw_X (sb_rz (sb_of [1, 2, 3, 4, 5, 6, 7, 8, 9, 10, 11, 12, 13, 14, 15, 16, 17, 18, 19, 20, 21, 22, 23, 24, 25, 26, 27, 0, 28, 29, 30, 31, 32, 33, 34, 35, 36, 37, 38, 39, 40, 41] rfl rfl)) (show ww x (W_L_law (xg x) a0 a1 a2 a3 a4 a5 a6 a7 a8 a9 a10 a11 a12 a13 a14 a15 a16 a17 a18 a19 a20 a21 a22 a23 a24 a25 a26 a27 a28 a29 a30 a31 a32 a33 a34 a35 a36 a37 a38 a39 ab v0 v1 v2 v3 v4 v5 v6 v7 v8 v9 v10 v11 v12 v13 v14 v15 v16 v17 v18 w231 v20 v21 v22 v23 v24 v25 v26 v27 v28 v29 v30 v31 v32 v33 v34 v35 v36 v37 v38 v39 v40 v41 v42 v43 w227 v46 v47 ++ ZP (xg x) a39 v45) [(6, .int r230), (5, .int r226), (0, .ref ab), (1, .ref a0), (2, .ref a27), (3, .ref a38), (4, .int z4)] (k0 + 1) (n0 + 6) 1051 [.int r232] from ?_)
    refine xw_iload hf (pc := 1051) dL_law_1051 1 rfl ?_
    refine xw_icmp_eq hf (pc := 1053) dL_law_1053 (tgt := 1058) rfl ⟨fun c => ?_, fun c => ?_⟩
    · have h := h.1 c
      refine xw_iload hf (pc := 1058) dL_law_1058 1 rfl ?_
      refine xw_if_ne hf (pc := 1060) dL_law_1060 (c := r226 = 0) Iff.rfl (tgt := 1075) rfl ⟨fun c => ?_, fun c => ?_⟩
      · have h := h.1 c
        refine xw_aload_n hf (pc := 1063) dL_law_1063 rfl 5 rfl ?_
        refine xw_iconst hf (pc := 1064) dL_law_1064 (v := 0) (by decide) ?_
        refine xw_lald hf (pc := 1065) dL_law_1065 41 rfl h.1 ?_
        have h := h.2
        refine xw_iload hf (pc := 1066) dL_law_1066 0 rfl ?_
        refine xw_i2l hf (pc := 1068) dL_law_1068 ?_
        refine xw_lcmp hf (pc := 1069) dL_law_1069 ?_
        refine xw_if_eq hf (pc := 1070) dL_law_1070 (c := (w227 (0 : Int32).toNatClampNeg) = r230.toInt64) (lc_eq _ _) (tgt := 1075) rfl ⟨fun c => ?_, fun c => ?_⟩
        · have h := h.1 c
          refine xw_goto hf (pc := 1075) dL_law_1075 (tgt := 2681) rfl ?_
          refine xw_L [2, 3, 4, 5, 6] rfl ?_
          exact hK2681 _ _ _ _ hk _ _ h
        · have h := h.2 c
          refine xw_iconst hf (pc := 1073) dL_law_1073 (v := 0) (by decide) ?_
          exact h.elim
      · have h := h.2 c
        refine xw_goto hf (pc := 1075) dL_law_1075 (tgt := 2681) rfl ?_
        refine xw_L [2, 3, 4, 5, 6] rfl ?_
        exact hK2681 _ _ _ _ hk _ _ h
    · have h := h.2 c
      refine xw_iconst hf (pc := 1056) dL_law_1056 (v := 0) (by decide) ?_
      exact h.elim
set_option maxHeartbeats 4000000 in
set_option maxRecDepth 100000 in
theorem w_L_law_L1078 {x : Cx} {mc ms : Nat} (hf : fx x (rm_L_law) RL cL_law wsL_law) (hn : xn x = 8) {k0 n0 rc rs : Nat} (hk : k0 + rc ≤ (rm_L_law).cells ∧ n0 + rs ≤ (rm_L_law).slots) (a0 a1 a2 a3 a4 a5 a6 a7 a8 a9 a10 a11 a12 a13 a14 a15 a16 a17 a18 a19 a20 a21 a22 a23 a24 a25 a26 a27 a28 a29 a30 a31 a32 a33 a34 a35 a36 a37 a38 a39 ab : Nat) (z4 : Int32) (v5 : Nat → Int32) (v20 : Int32) (v21 : Int32) (v22 : Int32) (v23 : Int32) (v24 : Int32) (v26 : Nat → Int32) (v0 : Int32) (v1 : Nat → Int64) (v2 : Int32) (v3 : Nat → Int64) (v4 : Nat → Int32) (v6 : Nat → Int32) (v7 : Nat → Int32) (v8 : Int32) (v9 : Nat → Int32) (v10 : Nat → Int32) (v11 : Int32) (v12 : Int32) (v13 : Nat → Int32) (v14 : Int32) (v15 : Nat → Int64) (v16 : Int32) (v17 : Nat → Int64) (v18 : Nat → Int32) (v25 : Nat → Int64) (v27 : Nat → Int32) (v28 : Nat → Int32) (v29 : Nat → Int32) (v30 : Nat) (v31 : Nat) (v32 : Nat → Int64) (v33 : Nat) (v34 : Nat) (v35 : Nat → Int32) (v36 : Nat) (v37 : Nat) (v38 : Nat → Int32) (v39 : Nat → Int32) (v40 : Nat → Int32) (v41 : Nat → Int32) (v42 : Nat → Int32) (v43 : Nat → Int32) (v44 : Nat → Int64) (v45 : ZL) (v46 : Nat) (v47 : Nat → Int32) {K2681 : Nat → Nat → Int32 → Prop} (hst : (xl x).stackTraces = false) (hX : sX x ab v46 v47)
    (n : Nat) (v19 : Int32) (h : P_L_law_L1078 z4 v5 v20 v21 v22 v23 v24 v26 K2681 n rc rs v19)
    (hK2681 : ∀ (k0 n0 rc rs : Nat), k0 + rc ≤ (rm_L_law).cells ∧ n0 + rs ≤ (rm_L_law).slots → ∀ (uv19 : Int32), K2681 rc rs uv19 → ww x (W_L_law (xg x) a0 a1 a2 a3 a4 a5 a6 a7 a8 a9 a10 a11 a12 a13 a14 a15 a16 a17 a18 a19 a20 a21 a22 a23 a24 a25 a26 a27 a28 a29 a30 a31 a32 a33 a34 a35 a36 a37 a38 a39 ab v0 v1 v2 v3 v4 v5 v6 v7 v8 v9 v10 v11 v12 v13 v14 v15 v16 v17 v18 uv19 v20 v21 v22 v23 v24 v25 v26 v27 v28 v29 v30 v31 v32 v33 v34 v35 v36 v37 v38 v39 v40 v41 v42 v43 v44 v46 v47 ++ ZP (xg x) a39 v45) [(0, .ref ab), (1, .ref a0), (2, .ref a27), (3, .ref a38), (4, .int z4)] k0 n0 2681 []) :
    ww x (W_L_law (xg x) a0 a1 a2 a3 a4 a5 a6 a7 a8 a9 a10 a11 a12 a13 a14 a15 a16 a17 a18 a19 a20 a21 a22 a23 a24 a25 a26 a27 a28 a29 a30 a31 a32 a33 a34 a35 a36 a37 a38 a39 ab v0 v1 v2 v3 v4 v5 v6 v7 v8 v9 v10 v11 v12 v13 v14 v15 v16 v17 v18 v19 v20 v21 v22 v23 v24 v25 v26 v27 v28 v29 v30 v31 v32 v33 v34 v35 v36 v37 v38 v39 v40 v41 v42 v43 v44 v46 v47 ++ ZP (xg x) a39 v45) [(0, .ref ab), (1, .ref a0), (2, .ref a27), (3, .ref a38), (4, .int z4)] k0 n0 1078 [] := by
  induction n generalizing k0 n0 rc rs v19 with
  | zero => exact h.elim
  | succ n ih =>
    unfold P_L_law_L1078 at h
    refine xw_aload_n hf (pc := 1078) dL_law_1078 rfl 1 rfl ?_
    refine xw_callV hf (pc := 1079) (nA := 0) (Xr := [(a1, .inr (2, [.ref a2, .ref a4, .ref a6])), (a2, .inr (7, [.ref a3, .int v0])), (a3, .inl (gJ (xg x), 60, .inr (.inl v1))), (a4, .inr (7, [.ref a5, .int v2])), (a5, .inl (gJ (xg x), 60, .inr (.inl v3))), (a6, .inr (3, [.ref a7])), (a7, .inl (gI (xg x), 32, .inl v4)), (a11, .inl (gI (xg x), 32, .inl v6)), (a12, .inl (gI (xg x), 32, .inl v7)), (a13, .inr (1, [.ref a39, .ref a14, .ref a16, .int v8])), (a14, .inr (3, [.ref a15])), (a15, .inl (gI (xg x), 32, .inl v9)), (a16, .inr (3, [.ref a17])), (a17, .inl (gI (xg x), 32, .inl v10)), (a18, .inr (4, [.ref a19, .ref a21, .ref a23, .int v11, .int v12])), (a19, .inr (3, [.ref a20])), (a20, .inl (gI (xg x), 32, .inl v13)), (a21, .inr (7, [.ref a22, .int v14])), (a22, .inl (gJ (xg x), 60, .inr (.inl v15))), (a23, .inr (7, [.ref a24, .int v16])), (a24, .inl (gJ (xg x), 60, .inr (.inl v17))), (a25, .inr (3, [.ref a26])), (a26, .inl (gI (xg x), 32, .inl v18)), (a27, .inr (9, [.int v19, .ref a28, .int v20, .ref a29, .ref a30, .ref a31, .ref a32, .ref v30, .ref v33, .ref v36, .int v21, .int v22, .ref a33, .int v23, .ref a34, .ref a35, .ref a36, .ref a37, .int v24])), (a28, .inl (gJ (xg x), 60, .inr (.inl v25))), (a29, .inl (gI (xg x), 27, .inl v26)), (a30, .inl (gI (xg x), 27, .inl v27)), (a31, .inl (gI (xg x), 27, .inl v28)), (a32, .inl (gI (xg x), 27, .inl v29)), (v30, .inl (gJ (xg x), v31, .inr (.inl v32))), (v33, .inl (gI (xg x), v34, .inl v35)), (v36, .inl (gZ (xg x), v37, .inl v38)), (a33, .inl (gI (xg x), 12, .inl v39)), (a34, .inl (gI (xg x), 27, .inl v40)), (a35, .inl (gI (xg x), 27, .inl v41)), (a36, .inl (gI (xg x), 60, .inl v42)), (a37, .inl (gI (xg x), 3, .inl v43)), (a38, .inl (gJ (xg x), 1, .inr (.inl v44)))] ++ ZP (xg x) a39 v45) (rest := []) (T := TX8) (c_X8_totalStock (xl x) (xg x) a0 a8 a9 a10 a1 a13 a18 a25 a11 a12 v5 h) gL_law_X8_totalStock (by rfl) rfl rfl (by decide +kernel) ⟨⟨(Nat.le_of_ble_eq_true rfl), (Nat.le_of_ble_eq_true rfl)⟩, (Nat.le_trans (Nat.le_add_right _ _) hk.1), (Nat.le_trans (Nat.le_add_right _ _) hk.2)⟩ (Nat.le_of_ble_eq_true rfl) rfl rfl (sb_zr (sb_of [0, 8, 9, 10, 1, 2, 3, 4, 5, 6, 7, 11, 12, 13, 14, 15, 16, 17, 18, 19, 20, 21, 22, 23, 24, 25, 26, 27, 28, 29, 30, 31, 32, 33, 34, 35, 36, 37, 38, 39, 40, 41] rfl rfl)) rfl dL_law_1079 (fun v X1 hp => ?_)
    obtain ⟨r239, rfl, rfl, h⟩ := hp
    refine xw_X (sb_rz (sb_of [0, 4, 5, 6, 7, 8, 9, 10, 1, 2, 3, 11, 12, 13, 14, 15, 16, 17, 18, 19, 20, 21, 22, 23, 24, 25, 26, 27, 28, 29, 30, 31, 32, 33, 34, 35, 36, 37, 38, 39, 40, 41] rfl rfl)) (show ww x (W_L_law (xg x) a0 a1 a2 a3 a4 a5 a6 a7 a8 a9 a10 a11 a12 a13 a14 a15 a16 a17 a18 a19 a20 a21 a22 a23 a24 a25 a26 a27 a28 a29 a30 a31 a32 a33 a34 a35 a36 a37 a38 a39 ab v0 v1 v2 v3 v4 v5 v6 v7 v8 v9 v10 v11 v12 v13 v14 v15 v16 v17 v18 v19 v20 v21 v22 v23 v24 v25 v26 v27 v28 v29 v30 v31 v32 v33 v34 v35 v36 v37 v38 v39 v40 v41 v42 v43 v44 v46 v47 ++ ZP (xg x) a39 v45) [(0, .ref ab), (1, .ref a0), (2, .ref a27), (3, .ref a38), (4, .int z4)] k0 n0 1082 [.int r239] from ?_)
    refine xw_aload_n hf (pc := 1082) dL_law_1082 rfl 2 rfl ?_
    refine xw_callV hf (pc := 1083) (nA := 0) (Xr := [(a0, .inr (8, [.ref a1, .ref a8, .ref a13, .ref a18, .ref a25])), (a1, .inr (2, [.ref a2, .ref a4, .ref a6])), (a2, .inr (7, [.ref a3, .int v0])), (a3, .inl (gJ (xg x), 60, .inr (.inl v1))), (a4, .inr (7, [.ref a5, .int v2])), (a5, .inl (gJ (xg x), 60, .inr (.inl v3))), (a6, .inr (3, [.ref a7])), (a7, .inl (gI (xg x), 32, .inl v4)), (a8, .inr (6, [.ref a9, .ref a11, .ref a12])), (a9, .inr (3, [.ref a10])), (a10, .inl (gI (xg x), 32, .inl v5)), (a11, .inl (gI (xg x), 32, .inl v6)), (a12, .inl (gI (xg x), 32, .inl v7)), (a13, .inr (1, [.ref a39, .ref a14, .ref a16, .int v8])), (a14, .inr (3, [.ref a15])), (a15, .inl (gI (xg x), 32, .inl v9)), (a16, .inr (3, [.ref a17])), (a17, .inl (gI (xg x), 32, .inl v10)), (a18, .inr (4, [.ref a19, .ref a21, .ref a23, .int v11, .int v12])), (a19, .inr (3, [.ref a20])), (a20, .inl (gI (xg x), 32, .inl v13)), (a21, .inr (7, [.ref a22, .int v14])), (a22, .inl (gJ (xg x), 60, .inr (.inl v15))), (a23, .inr (7, [.ref a24, .int v16])), (a24, .inl (gJ (xg x), 60, .inr (.inl v17))), (a25, .inr (3, [.ref a26])), (a26, .inl (gI (xg x), 32, .inl v18)), (a28, .inl (gJ (xg x), 60, .inr (.inl v25))), (a30, .inl (gI (xg x), 27, .inl v27)), (a31, .inl (gI (xg x), 27, .inl v28)), (a32, .inl (gI (xg x), 27, .inl v29)), (v30, .inl (gJ (xg x), v31, .inr (.inl v32))), (v33, .inl (gI (xg x), v34, .inl v35)), (v36, .inl (gZ (xg x), v37, .inl v38)), (a33, .inl (gI (xg x), 12, .inl v39)), (a34, .inl (gI (xg x), 27, .inl v40)), (a35, .inl (gI (xg x), 27, .inl v41)), (a36, .inl (gI (xg x), 60, .inl v42)), (a37, .inl (gI (xg x), 3, .inl v43)), (a38, .inl (gJ (xg x), 1, .inr (.inl v44)))] ++ ZP (xg x) a39 v45) (rest := [.int r239]) (T := TX9) (c_X9_totalStock (xl x) (xg x) a27 a29 a28 a30 a31 a32 v30 v33 v36 a33 a34 a35 a36 a37 v19 v20 v21 v22 v23 v24 v26 h) gL_law_X9_totalStock (by rfl) rfl rfl (by decide +kernel) ⟨⟨(Nat.le_of_ble_eq_true rfl), (Nat.le_of_ble_eq_true rfl)⟩, (Nat.le_trans (Nat.le_add_right _ _) hk.1), (Nat.le_trans (Nat.le_add_right _ _) hk.2)⟩ (Nat.le_of_ble_eq_true rfl) rfl rfl (sb_zr (sb_of [27, 29, 0, 1, 2, 3, 4, 5, 6, 7, 8, 9, 10, 11, 12, 13, 14, 15, 16, 17, 18, 19, 20, 21, 22, 23, 24, 25, 26, 28, 30, 31, 32, 33, 34, 35, 36, 37, 38, 39, 40, 41] rfl rfl)) rfl dL_law_1083 (fun v X1 hp => ?_)
    obtain ⟨r240, w241, rfl, rfl, h⟩ := hp
    refine xw_X (sb_rz (sb_of [2, 3, 4, 5, 6, 7, 8, 9, 10, 11, 12, 13, 14, 15, 16, 17, 18, 19, 20, 21, 22, 23, 24, 25, 26, 27, 28, 0, 29, 1, 30, 31, 32, 33, 34, 35, 36, 37, 38, 39, 40, 41] rfl rfl)) (show ww x (W_L_law (xg x) a0 a1 a2 a3 a4 a5 a6 a7 a8 a9 a10 a11 a12 a13 a14 a15 a16 a17 a18 a19 a20 a21 a22 a23 a24 a25 a26 a27 a28 a29 a30 a31 a32 a33 a34 a35 a36 a37 a38 a39 ab v0 v1 v2 v3 v4 v5 v6 v7 v8 v9 v10 v11 v12 v13 v14 v15 v16 v17 v18 w241 v20 v21 v22 v23 v24 v25 v26 v27 v28 v29 v30 v31 v32 v33 v34 v35 v36 v37 v38 v39 v40 v41 v42 v43 v44 v46 v47 ++ ZP (xg x) a39 v45) [(0, .ref ab), (1, .ref a0), (2, .ref a27), (3, .ref a38), (4, .int z4)] k0 n0 1086 [.int r240, .int r239] from ?_)
    refine xw_icmp_eq hf (pc := 1086) dL_law_1086 (tgt := 2681) rfl ⟨fun c => ?_, fun c => ?_⟩
    · have h := h.1 c
      refine xw_L [0, 1, 2, 3, 4] rfl ?_
      exact hK2681 _ _ _ _ hk _ h
    · have h := h.2 c
      refine xw_iconst hf (pc := 1089) dL_law_1089 (v := 0) (by decide) ?_
      exact h.elim
set_option maxHeartbeats 4000000 in
set_option maxRecDepth 100000 in
theorem w_L_law_L1091 {x : Cx} {mc ms : Nat} (hf : fx x (rm_L_law) RL cL_law wsL_law) (hn : xn x = 8) {k0 n0 rc rs : Nat} (hk : k0 + rc ≤ (rm_L_law).cells ∧ n0 + rs ≤ (rm_L_law).slots) (a0 a1 a2 a3 a4 a5 a6 a7 a8 a9 a10 a11 a12 a13 a14 a15 a16 a17 a18 a19 a20 a21 a22 a23 a24 a25 a26 a27 a28 a29 a30 a31 a32 a33 a34 a35 a36 a37 a38 a39 ab : Nat) (z4 : Int32) (v20 : Int32) (v21 : Int32) (v22 : Int32) (v23 : Int32) (v24 : Int32) (v46 : Nat) (v47 : Nat → Int32) (v0 : Int32) (v1 : Nat → Int64) (v2 : Int32) (v3 : Nat → Int64) (v4 : Nat → Int32) (v5 : Nat → Int32) (v7 : Nat → Int32) (v8 : Int32) (v9 : Nat → Int32) (v10 : Nat → Int32) (v11 : Int32) (v12 : Int32) (v13 : Nat → Int32) (v14 : Int32) (v15 : Nat → Int64) (v16 : Int32) (v17 : Nat → Int64) (v18 : Nat → Int32) (v25 : Nat → Int64) (v26 : Nat → Int32) (v28 : Nat → Int32) (v29 : Nat → Int32) (v30 : Nat) (v31 : Nat) (v32 : Nat → Int64) (v33 : Nat) (v34 : Nat) (v35 : Nat → Int32) (v36 : Nat) (v37 : Nat) (v38 : Nat → Int32) (v39 : Nat → Int32) (v40 : Nat → Int32) (v41 : Nat → Int32) (v42 : Nat → Int32) (v43 : Nat → Int32) (v45 : ZL) {K2681 : Nat → Nat → (Nat → Int32) → Int32 → (Nat → Int32) → (Nat → Int64) → Prop} (hst : (xl x).stackTraces = false) (hX : sX x ab v46 v47)
    (n : Nat) (v6 : Nat → Int32) (v19 : Int32) (v27 : Nat → Int32) (v44 : Nat → Int64) (h : P_L_law_L1091 z4 v20 v21 v22 v23 v24 v46 v47 K2681 n rc rs v6 v19 v27 v44)
    (hK2681 : ∀ (k0 n0 rc rs : Nat), k0 + rc ≤ (rm_L_law).cells ∧ n0 + rs ≤ (rm_L_law).slots → ∀ (uv6 : Nat → Int32), ∀ (uv19 : Int32), ∀ (uv27 : Nat → Int32), ∀ (uv44 : Nat → Int64), K2681 rc rs uv6 uv19 uv27 uv44 → ww x (W_L_law (xg x) a0 a1 a2 a3 a4 a5 a6 a7 a8 a9 a10 a11 a12 a13 a14 a15 a16 a17 a18 a19 a20 a21 a22 a23 a24 a25 a26 a27 a28 a29 a30 a31 a32 a33 a34 a35 a36 a37 a38 a39 ab v0 v1 v2 v3 v4 v5 uv6 v7 v8 v9 v10 v11 v12 v13 v14 v15 v16 v17 v18 uv19 v20 v21 v22 v23 v24 v25 v26 uv27 v28 v29 v30 v31 v32 v33 v34 v35 v36 v37 v38 v39 v40 v41 v42 v43 uv44 v46 v47 ++ ZP (xg x) a39 v45) [(0, .ref ab), (1, .ref a0), (2, .ref a27), (3, .ref a38), (4, .int z4)] k0 n0 2681 []) :
    ww x (W_L_law (xg x) a0 a1 a2 a3 a4 a5 a6 a7 a8 a9 a10 a11 a12 a13 a14 a15 a16 a17 a18 a19 a20 a21 a22 a23 a24 a25 a26 a27 a28 a29 a30 a31 a32 a33 a34 a35 a36 a37 a38 a39 ab v0 v1 v2 v3 v4 v5 v6 v7 v8 v9 v10 v11 v12 v13 v14 v15 v16 v17 v18 v19 v20 v21 v22 v23 v24 v25 v26 v27 v28 v29 v30 v31 v32 v33 v34 v35 v36 v37 v38 v39 v40 v41 v42 v43 v44 v46 v47 ++ ZP (xg x) a39 v45) [(0, .ref ab), (1, .ref a0), (2, .ref a27), (3, .ref a38), (4, .int z4)] k0 n0 1091 [] := by
  induction n generalizing k0 n0 rc rs v6 v19 v27 v44 with
  | zero => exact h.elim
  | succ n ih =>
    unfold P_L_law_L1091 at h
    refine xw_aload_n hf (pc := 1091) dL_law_1091 rfl 1 rfl ?_
    refine xw_aload_n hf (pc := 1092) dL_law_1092 rfl 0 rfl ?_
    refine xw_iload hf (pc := 1093) dL_law_1093 4 rfl ?_
    refine xw_iconst hf (pc := 1095) dL_law_1095 (v := 1) (by decide) ?_
    refine xw_iadd hf (pc := 1096) dL_law_1096 ?_
    refine xw_sald hf hX dL_law_1097 h.1 ?_
    have h := h.2
    refine xw_aload_n hf (pc := 1098) dL_law_1098 rfl 0 rfl ?_
    refine xw_iload hf (pc := 1099) dL_law_1099 4 rfl ?_
    refine xw_iconst hf (pc := 1101) dL_law_1101 (v := 2) (by decide) ?_
    refine xw_iadd hf (pc := 1102) dL_law_1102 ?_
    refine xw_sald hf hX dL_law_1103 h.1 ?_
    have h := h.2
    refine xw_aload_n hf (pc := 1104) dL_law_1104 rfl 3 rfl ?_
    obtain ⟨mc250, ms251, ⟨hb1, hb2⟩, h⟩ := h
    refine xw_callSW hf (pc := 1105) (nA := 4) (Xr := [(a1, .inr (2, [.ref a2, .ref a4, .ref a6])), (a2, .inr (7, [.ref a3, .int v0])), (a3, .inl (gJ (xg x), 60, .inr (.inl v1))), (a4, .inr (7, [.ref a5, .int v2])), (a5, .inl (gJ (xg x), 60, .inr (.inl v3))), (a6, .inr (3, [.ref a7])), (a7, .inl (gI (xg x), 32, .inl v4)), (a9, .inr (3, [.ref a10])), (a10, .inl (gI (xg x), 32, .inl v5)), (a12, .inl (gI (xg x), 32, .inl v7)), (a13, .inr (1, [.ref a39, .ref a14, .ref a16, .int v8])), (a14, .inr (3, [.ref a15])), (a15, .inl (gI (xg x), 32, .inl v9)), (a16, .inr (3, [.ref a17])), (a17, .inl (gI (xg x), 32, .inl v10)), (a18, .inr (4, [.ref a19, .ref a21, .ref a23, .int v11, .int v12])), (a19, .inr (3, [.ref a20])), (a20, .inl (gI (xg x), 32, .inl v13)), (a21, .inr (7, [.ref a22, .int v14])), (a22, .inl (gJ (xg x), 60, .inr (.inl v15))), (a23, .inr (7, [.ref a24, .int v16])), (a24, .inl (gJ (xg x), 60, .inr (.inl v17))), (a25, .inr (3, [.ref a26])), (a26, .inl (gI (xg x), 32, .inl v18)), (a27, .inr (9, [.int v19, .ref a28, .int v20, .ref a29, .ref a30, .ref a31, .ref a32, .ref v30, .ref v33, .ref v36, .int v21, .int v22, .ref a33, .int v23, .ref a34, .ref a35, .ref a36, .ref a37, .int v24])), (a28, .inl (gJ (xg x), 60, .inr (.inl v25))), (a29, .inl (gI (xg x), 27, .inl v26)), (a30, .inl (gI (xg x), 27, .inl v27)), (a31, .inl (gI (xg x), 27, .inl v28)), (a32, .inl (gI (xg x), 27, .inl v29)), (v30, .inl (gJ (xg x), v31, .inr (.inl v32))), (v33, .inl (gI (xg x), v34, .inl v35)), (v36, .inl (gZ (xg x), v37, .inl v38)), (a33, .inl (gI (xg x), 12, .inl v39)), (a34, .inl (gI (xg x), 27, .inl v40)), (a35, .inl (gI (xg x), 27, .inl v41)), (a36, .inl (gI (xg x), 60, .inl v42)), (a37, .inl (gI (xg x), 3, .inl v43))] ++ ZP (xg x) a39 v45) (rest := []) (c_L_setBasePrice (xl x) (xg x) hst a0 a8 a11 a38 a1 a13 a18 a25 a9 a12 v6 v44 (v47 (z4 + 1).toNatClampNeg) (v47 (z4 + 2).toNatClampNeg) h) gL_law_L_setBasePrice (by rfl) rfl (by decide +kernel) ⟨⟨(Nat.le_of_ble_eq_true rfl), (Nat.le_of_ble_eq_true rfl)⟩, (Nat.le_trans (show k0 + 2 ≤ k0 + rc by omega) hk.1), (Nat.le_trans (show n0 + 12 ≤ n0 + rs by omega) hk.2)⟩ (Nat.le_of_ble_eq_true rfl) (sb_zr (sb_of [0, 8, 11, 41, 1, 2, 3, 4, 5, 6, 7, 9, 10, 12, 13, 14, 15, 16, 17, 18, 19, 20, 21, 22, 23, 24, 25, 26, 27, 28, 29, 30, 31, 32, 33, 34, 35, 36, 37, 38, 39, 40] rfl rfl)) rfl dL_law_1105 (fun v X1 hp => ?_)
    obtain ⟨r247, w248, w249, rfl, rfl, h⟩ := hp
    have hk : k0 + 2 + mc250 ≤ (rm_L_law).cells ∧ n0 + 12 + ms251 ≤ (rm_L_law).slots := ⟨Nat.le_trans (show k0 + 2 + mc250 ≤ k0 + rc by omega) hk.1, Nat.le_trans (show n0 + 12 + ms251 ≤ n0 + rs by omega) hk.2⟩
    refine xw_X (sb_rz (sb_of [0, 4, 5, 6, 7, 8, 9, 10, 1, 11, 12, 2, 13, 14, 15, 16, 17, 18, 19, 20, 21, 22, 23, 24, 25, 26, 27, 28, 29, 30, 31, 32, 33, 34, 35, 36, 37, 38, 39, 40, 41, 3] rfl rfl)) (show ww x (W_L_law (xg x) a0 a1 a2 a3 a4 a5 a6 a7 a8 a9 a10 a11 a12 a13 a14 a15 a16 a17 a18 a19 a20 a21 a22 a23 a24 a25 a26 a27 a28 a29 a30 a31 a32 a33 a34 a35 a36 a37 a38 a39 ab v0 v1 v2 v3 v4 v5 w248 v7 v8 v9 v10 v11 v12 v13 v14 v15 v16 v17 v18 v19 v20 v21 v22 v23 v24 v25 v26 v27 v28 v29 v30 v31 v32 v33 v34 v35 v36 v37 v38 v39 v40 v41 v42 v43 w249 v46 v47 ++ ZP (xg x) a39 v45) [(0, .ref ab), (1, .ref a0), (2, .ref a27), (3, .ref a38), (4, .int z4)] (k0 + 2) (n0 + 12) 1108 [.int r247] from ?_)
    refine xw_istore hf (pc := 1108) dL_law_1108 [(5, .int r247), (0, .ref ab), (1, .ref a0), (2, .ref a27), (3, .ref a38), (4, .int z4)] hn (by decide) rfl ?_
    refine xw_aload_n hf (pc := 1110) dL_law_1110 rfl 3 rfl ?_
    refine xw_aload_n hf (pc := 1111) dL_law_1111 rfl 1 rfl ?_
    refine xw_iload hf (pc := 1112) dL_law_1112 5 rfl ?_
    refine xw_iconst hf (pc := 1114) dL_law_1114 (v := 1) (by decide) ?_
    refine xw_iadd hf (pc := 1115) dL_law_1115 ?_
    refine xw_sald hf hX dL_law_1116 h.1 ?_
    have h := h.2
    refine xw_aload_n hf (pc := 1117) dL_law_1117 rfl 1 rfl ?_
    refine xw_iload hf (pc := 1118) dL_law_1118 5 rfl ?_
    refine xw_iconst hf (pc := 1120) dL_law_1120 (v := 2) (by decide) ?_
    refine xw_iadd hf (pc := 1121) dL_law_1121 ?_
    refine xw_sald hf hX dL_law_1122 h.1 ?_
    have h := h.2
    refine xw_callV hf (pc := 1123) (nA := 2) (Xr := [(a0, .inr (8, [.ref a1, .ref a8, .ref a13, .ref a18, .ref a25])), (a1, .inr (2, [.ref a2, .ref a4, .ref a6])), (a2, .inr (7, [.ref a3, .int v0])), (a3, .inl (gJ (xg x), 60, .inr (.inl v1))), (a4, .inr (7, [.ref a5, .int v2])), (a5, .inl (gJ (xg x), 60, .inr (.inl v3))), (a6, .inr (3, [.ref a7])), (a7, .inl (gI (xg x), 32, .inl v4)), (a8, .inr (6, [.ref a9, .ref a11, .ref a12])), (a9, .inr (3, [.ref a10])), (a10, .inl (gI (xg x), 32, .inl v5)), (a11, .inl (gI (xg x), 32, .inl w248)), (a12, .inl (gI (xg x), 32, .inl v7)), (a13, .inr (1, [.ref a39, .ref a14, .ref a16, .int v8])), (a14, .inr (3, [.ref a15])), (a15, .inl (gI (xg x), 32, .inl v9)), (a16, .inr (3, [.ref a17])), (a17, .inl (gI (xg x), 32, .inl v10)), (a18, .inr (4, [.ref a19, .ref a21, .ref a23, .int v11, .int v12])), (a19, .inr (3, [.ref a20])), (a20, .inl (gI (xg x), 32, .inl v13)), (a21, .inr (7, [.ref a22, .int v14])), (a22, .inl (gJ (xg x), 60, .inr (.inl v15))), (a23, .inr (7, [.ref a24, .int v16])), (a24, .inl (gJ (xg x), 60, .inr (.inl v17))), (a25, .inr (3, [.ref a26])), (a26, .inl (gI (xg x), 32, .inl v18)), (a28, .inl (gJ (xg x), 60, .inr (.inl v25))), (a29, .inl (gI (xg x), 27, .inl v26)), (a31, .inl (gI (xg x), 27, .inl v28)), (a32, .inl (gI (xg x), 27, .inl v29)), (v30, .inl (gJ (xg x), v31, .inr (.inl v32))), (v33, .inl (gI (xg x), v34, .inl v35)), (v36, .inl (gZ (xg x), v37, .inl v38)), (a33, .inl (gI (xg x), 12, .inl v39)), (a34, .inl (gI (xg x), 27, .inl v40)), (a35, .inl (gI (xg x), 27, .inl v41)), (a36, .inl (gI (xg x), 60, .inl v42)), (a37, .inl (gI (xg x), 3, .inl v43)), (a38, .inl (gJ (xg x), 1, .inr (.inl w249)))] ++ ZP (xg x) a39 v45) (rest := []) (T := TX9) (c_X9_setBasePrice (xl x) (xg x) a27 a30 a28 a29 a31 a32 v30 v33 v36 a33 a34 a35 a36 a37 v19 v20 v21 v22 v23 v24 v27 (v47 (z4 + 1).toNatClampNeg) (v47 (z4 + 2).toNatClampNeg) h) gL_law_X9_setBasePrice (by rfl) rfl rfl (by decide +kernel) ⟨⟨(Nat.le_of_ble_eq_true rfl), (Nat.le_of_ble_eq_true rfl)⟩, (Nat.le_trans (Nat.le_add_right _ _) hk.1), (Nat.le_trans (Nat.le_add_right _ _) hk.2)⟩ (Nat.le_of_ble_eq_true rfl) rfl rfl (sb_zr (sb_of [27, 30, 0, 1, 2, 3, 4, 5, 6, 7, 8, 9, 10, 11, 12, 13, 14, 15, 16, 17, 18, 19, 20, 21, 22, 23, 24, 25, 26, 28, 29, 31, 32, 33, 34, 35, 36, 37, 38, 39, 40, 41] rfl rfl)) rfl dL_law_1123 (fun v X1 hp => ?_)
    obtain ⟨r252, w253, w254, rfl, rfl, h⟩ := hp
    refine xw_X (sb_rz (sb_of [2, 3, 4, 5, 6, 7, 8, 9, 10, 11, 12, 13, 14, 15, 16, 17, 18, 19, 20, 21, 22, 23, 24, 25, 26, 27, 28, 0, 29, 30, 1, 31, 32, 33, 34, 35, 36, 37, 38, 39, 40, 41] rfl rfl)) (show ww x (W_L_law (xg x) a0 a1 a2 a3 a4 a5 a6 a7 a8 a9 a10 a11 a12 a13 a14 a15 a16 a17 a18 a19 a20 a21 a22 a23 a24 a25 a26 a27 a28 a29 a30 a31 a32 a33 a34 a35 a36 a37 a38 a39 ab v0 v1 v2 v3 v4 v5 w248 v7 v8 v9 v10 v11 v12 v13 v14 v15 v16 v17 v18 w253 v20 v21 v22 v23 v24 v25 v26 w254 v28 v29 v30 v31 v32 v33 v34 v35 v36 v37 v38 v39 v40 v41 v42 v43 w249 v46 v47 ++ ZP (xg x) a39 v45) [(5, .int r247), (0, .ref ab), (1, .ref a0), (2, .ref a27), (3, .ref a38), (4, .int z4)] (k0 + 2) (n0 + 12) 1126 [.int r252] from ?_)
    refine xw_istore hf (pc := 1126) dL_law_1126 [(6, .int r252), (5, .int r247), (0, .ref ab), (1, .ref a0), (2, .ref a27), (3, .ref a38), (4, .int z4)] hn (by decide) rfl ?_
    refine xw_aload_n hf (pc := 1128) dL_law_1128 rfl 4 rfl ?_
    refine xw_callV hf (pc := 1129) (nA := 0) (Xr := [(a0, .inr (8, [.ref a1, .ref a8, .ref a13, .ref a18, .ref a25])), (a1, .inr (2, [.ref a2, .ref a4, .ref a6])), (a2, .inr (7, [.ref a3, .int v0])), (a3, .inl (gJ (xg x), 60, .inr (.inl v1))), (a4, .inr (7, [.ref a5, .int v2])), (a5, .inl (gJ (xg x), 60, .inr (.inl v3))), (a6, .inr (3, [.ref a7])), (a7, .inl (gI (xg x), 32, .inl v4)), (a8, .inr (6, [.ref a9, .ref a11, .ref a12])), (a9, .inr (3, [.ref a10])), (a10, .inl (gI (xg x), 32, .inl v5)), (a11, .inl (gI (xg x), 32, .inl w248)), (a12, .inl (gI (xg x), 32, .inl v7)), (a13, .inr (1, [.ref a39, .ref a14, .ref a16, .int v8])), (a14, .inr (3, [.ref a15])), (a15, .inl (gI (xg x), 32, .inl v9)), (a16, .inr (3, [.ref a17])), (a17, .inl (gI (xg x), 32, .inl v10)), (a18, .inr (4, [.ref a19, .ref a21, .ref a23, .int v11, .int v12])), (a19, .inr (3, [.ref a20])), (a20, .inl (gI (xg x), 32, .inl v13)), (a21, .inr (7, [.ref a22, .int v14])), (a22, .inl (gJ (xg x), 60, .inr (.inl v15))), (a23, .inr (7, [.ref a24, .int v16])), (a24, .inl (gJ (xg x), 60, .inr (.inl v17))), (a25, .inr (3, [.ref a26])), (a26, .inl (gI (xg x), 32, .inl v18)), (a28, .inl (gJ (xg x), 60, .inr (.inl v25))), (a29, .inl (gI (xg x), 27, .inl v26)), (a30, .inl (gI (xg x), 27, .inl w254)), (a31, .inl (gI (xg x), 27, .inl v28)), (a32, .inl (gI (xg x), 27, .inl v29)), (v30, .inl (gJ (xg x), v31, .inr (.inl v32))), (v33, .inl (gI (xg x), v34, .inl v35)), (v36, .inl (gZ (xg x), v37, .inl v38)), (a33, .inl (gI (xg x), 12, .inl v39)), (a34, .inl (gI (xg x), 27, .inl v40)), (a35, .inl (gI (xg x), 27, .inl v41)), (a36, .inl (gI (xg x), 60, .inl v42)), (a37, .inl (gI (xg x), 3, .inl v43)), (a38, .inl (gJ (xg x), 1, .inr (.inl w249)))] ++ ZP (xg x) a39 v45) (rest := []) (T := TX9) (c_X9_thrown (xl x) (xg x) a27 a28 a29 a30 a31 a32 v30 v33 v36 a33 a34 a35 a36 a37 w253 v20 v21 v22 v23 v24 h) gL_law_X9_thrown (by rfl) rfl rfl (by decide +kernel) ⟨⟨(Nat.le_of_ble_eq_true rfl), (Nat.le_of_ble_eq_true rfl)⟩, (Nat.le_trans (Nat.le_add_right _ _) hk.1), (Nat.le_trans (Nat.le_add_right _ _) hk.2)⟩ (Nat.le_of_ble_eq_true rfl) rfl rfl (sb_zr (sb_of [27, 0, 1, 2, 3, 4, 5, 6, 7, 8, 9, 10, 11, 12, 13, 14, 15, 16, 17, 18, 19, 20, 21, 22, 23, 24, 25, 26, 28, 29, 30, 31, 32, 33, 34, 35, 36, 37, 38, 39, 40, 41] rfl rfl)) rfl dL_law_1129 (fun v X1 hp => ?_)
    obtain ⟨r255, rfl, rfl, h⟩ := hp
    refine xw_X (sb_rz (sb_of [1, 2, 3, 4, 5, 6, 7, 8, 9, 10, 11, 12, 13, 14, 15, 16, 17, 18, 19, 20, 21, 22, 23, 24, 25, 26, 27, 0, 28, 29, 30, 31, 32, 33, 34, 35, 36, 37, 38, 39, 40, 41] rfl rfl)) (show ww x (W_L_law (xg x) a0 a1 a2 a3 a4 a5 a6 a7 a8 a9 a10 a11 a12 a13 a14 a15 a16 a17 a18 a19 a20 a21 a22 a23 a24 a25 a26 a27 a28 a29 a30 a31 a32 a33 a34 a35 a36 a37 a38 a39 ab v0 v1 v2 v3 v4 v5 w248 v7 v8 v9 v10 v11 v12 v13 v14 v15 v16 v17 v18 w253 v20 v21 v22 v23 v24 v25 v26 w254 v28 v29 v30 v31 v32 v33 v34 v35 v36 v37 v38 v39 v40 v41 v42 v43 w249 v46 v47 ++ ZP (xg x) a39 v45) [(6, .int r252), (5, .int r247), (0, .ref ab), (1, .ref a0), (2, .ref a27), (3, .ref a38), (4, .int z4)] (k0 + 2) (n0 + 12) 1132 [.int r255] from ?_)
    refine xw_iload hf (pc := 1132) dL_law_1132 1 rfl ?_
    refine xw_icmp_eq hf (pc := 1134) dL_law_1134 (tgt := 1139) rfl ⟨fun c => ?_, fun c => ?_⟩
    · have h := h.1 c
      refine xw_iload hf (pc := 1139) dL_law_1139 1 rfl ?_
      refine xw_if_ne hf (pc := 1141) dL_law_1141 (c := r247 = 0) Iff.rfl (tgt := 1156) rfl ⟨fun c => ?_, fun c => ?_⟩
      · have h := h.1 c
        refine xw_aload_n hf (pc := 1144) dL_law_1144 rfl 5 rfl ?_
        refine xw_iconst hf (pc := 1145) dL_law_1145 (v := 0) (by decide) ?_
        refine xw_lald hf (pc := 1146) dL_law_1146 41 rfl h.1 ?_
        have h := h.2
        refine xw_iload hf (pc := 1147) dL_law_1147 0 rfl ?_
        refine xw_i2l hf (pc := 1149) dL_law_1149 ?_
        refine xw_lcmp hf (pc := 1150) dL_law_1150 ?_
        refine xw_if_eq hf (pc := 1151) dL_law_1151 (c := (w249 (0 : Int32).toNatClampNeg) = r252.toInt64) (lc_eq _ _) (tgt := 1156) rfl ⟨fun c => ?_, fun c => ?_⟩
        · have h := h.1 c
          refine xw_goto hf (pc := 1156) dL_law_1156 (tgt := 2681) rfl ?_
          refine xw_L [2, 3, 4, 5, 6] rfl ?_
          exact hK2681 _ _ _ _ hk _ _ _ _ h
        · have h := h.2 c
          refine xw_iconst hf (pc := 1154) dL_law_1154 (v := 0) (by decide) ?_
          exact h.elim
      · have h := h.2 c
        refine xw_goto hf (pc := 1156) dL_law_1156 (tgt := 2681) rfl ?_
        refine xw_L [2, 3, 4, 5, 6] rfl ?_
        exact hK2681 _ _ _ _ hk _ _ _ _ h
    · have h := h.2 c
      refine xw_iconst hf (pc := 1137) dL_law_1137 (v := 0) (by decide) ?_
      exact h.elim
set_option maxHeartbeats 4000000 in
set_option maxRecDepth 100000 in
theorem w_L_law_L1159 {x : Cx} {mc ms : Nat} (hf : fx x (rm_L_law) RL cL_law wsL_law) (hn : xn x = 8) {k0 n0 rc rs : Nat} (hk : k0 + rc ≤ (rm_L_law).cells ∧ n0 + rs ≤ (rm_L_law).slots) (a0 a1 a2 a3 a4 a5 a6 a7 a8 a9 a10 a11 a12 a13 a14 a15 a16 a17 a18 a19 a20 a21 a22 a23 a24 a25 a26 a27 a28 a29 a30 a31 a32 a33 a34 a35 a36 a37 a38 a39 ab : Nat) (z4 : Int32) (v6 : Nat → Int32) (v20 : Int32) (v21 : Int32) (v22 : Int32) (v23 : Int32) (v24 : Int32) (v27 : Nat → Int32) (v46 : Nat) (v47 : Nat → Int32) (v0 : Int32) (v1 : Nat → Int64) (v2 : Int32) (v3 : Nat → Int64) (v4 : Nat → Int32) (v5 : Nat → Int32) (v7 : Nat → Int32) (v8 : Int32) (v9 : Nat → Int32) (v10 : Nat → Int32) (v11 : Int32) (v12 : Int32) (v13 : Nat → Int32) (v14 : Int32) (v15 : Nat → Int64) (v16 : Int32) (v17 : Nat → Int64) (v18 : Nat → Int32) (v25 : Nat → Int64) (v26 : Nat → Int32) (v28 : Nat → Int32) (v29 : Nat → Int32) (v30 : Nat) (v31 : Nat) (v32 : Nat → Int64) (v33 : Nat) (v34 : Nat) (v35 : Nat → Int32) (v36 : Nat) (v37 : Nat) (v38 : Nat → Int32) (v39 : Nat → Int32) (v40 : Nat → Int32) (v41 : Nat → Int32) (v42 : Nat → Int32) (v43 : Nat → Int32) (v45 : ZL) {K2681 : Nat → Nat → Int32 → (Nat → Int64) → Prop} (hst : (xl x).stackTraces = false) (hX : sX x ab v46 v47)
    (n : Nat) (v19 : Int32) (v44 : Nat → Int64) (h : P_L_law_L1159 z4 v6 v20 v21 v22 v23 v24 v27 v46 v47 K2681 n rc rs v19 v44)
    (hK2681 : ∀ (k0 n0 rc rs : Nat), k0 + rc ≤ (rm_L_law).cells ∧ n0 + rs ≤ (rm_L_law).slots → ∀ (uv19 : Int32), ∀ (uv44 : Nat → Int64), K2681 rc rs uv19 uv44 → ww x (W_L_law (xg x) a0 a1 a2 a3 a4 a5 a6 a7 a8 a9 a10 a11 a12 a13 a14 a15 a16 a17 a18 a19 a20 a21 a22 a23 a24 a25 a26 a27 a28 a29 a30 a31 a32 a33 a34 a35 a36 a37 a38 a39 ab v0 v1 v2 v3 v4 v5 v6 v7 v8 v9 v10 v11 v12 v13 v14 v15 v16 v17 v18 uv19 v20 v21 v22 v23 v24 v25 v26 v27 v28 v29 v30 v31 v32 v33 v34 v35 v36 v37 v38 v39 v40 v41 v42 v43 uv44 v46 v47 ++ ZP (xg x) a39 v45) [(0, .ref ab), (1, .ref a0), (2, .ref a27), (3, .ref a38), (4, .int z4)] k0 n0 2681 []) :
    ww x (W_L_law (xg x) a0 a1 a2 a3 a4 a5 a6 a7 a8 a9 a10 a11 a12 a13 a14 a15 a16 a17 a18 a19 a20 a21 a22 a23 a24 a25 a26 a27 a28 a29 a30 a31 a32 a33 a34 a35 a36 a37 a38 a39 ab v0 v1 v2 v3 v4 v5 v6 v7 v8 v9 v10 v11 v12 v13 v14 v15 v16 v17 v18 v19 v20 v21 v22 v23 v24 v25 v26 v27 v28 v29 v30 v31 v32 v33 v34 v35 v36 v37 v38 v39 v40 v41 v42 v43 v44 v46 v47 ++ ZP (xg x) a39 v45) [(0, .ref ab), (1, .ref a0), (2, .ref a27), (3, .ref a38), (4, .int z4)] k0 n0 1159 [] := by
  induction n generalizing k0 n0 rc rs v19 v44 with
  | zero => exact h.elim
  | succ n ih =>
    unfold P_L_law_L1159 at h
    refine xw_aload_n hf (pc := 1159) dL_law_1159 rfl 1 rfl ?_
    refine xw_aload_n hf (pc := 1160) dL_law_1160 rfl 0 rfl ?_
    refine xw_iload hf (pc := 1161) dL_law_1161 4 rfl ?_
    refine xw_iconst hf (pc := 1163) dL_law_1163 (v := 1) (by decide) ?_
    refine xw_iadd hf (pc := 1164) dL_law_1164 ?_
    refine xw_sald hf hX dL_law_1165 h.1 ?_
    have h := h.2
    refine xw_aload_n hf (pc := 1166) dL_law_1166 rfl 3 rfl ?_
    obtain ⟨mc266, ms267, ⟨hb1, hb2⟩, h⟩ := h
    refine xw_callSW hf (pc := 1167) (nA := 3) (Xr := [(a1, .inr (2, [.ref a2, .ref a4, .ref a6])), (a2, .inr (7, [.ref a3, .int v0])), (a3, .inl (gJ (xg x), 60, .inr (.inl v1))), (a4, .inr (7, [.ref a5, .int v2])), (a5, .inl (gJ (xg x), 60, .inr (.inl v3))), (a6, .inr (3, [.ref a7])), (a7, .inl (gI (xg x), 32, .inl v4)), (a9, .inr (3, [.ref a10])), (a10, .inl (gI (xg x), 32, .inl v5)), (a12, .inl (gI (xg x), 32, .inl v7)), (a13, .inr (1, [.ref a39, .ref a14, .ref a16, .int v8])), (a14, .inr (3, [.ref a15])), (a15, .inl (gI (xg x), 32, .inl v9)), (a16, .inr (3, [.ref a17])), (a17, .inl (gI (xg x), 32, .inl v10)), (a18, .inr (4, [.ref a19, .ref a21, .ref a23, .int v11, .int v12])), (a19, .inr (3, [.ref a20])), (a20, .inl (gI (xg x), 32, .inl v13)), (a21, .inr (7, [.ref a22, .int v14])), (a22, .inl (gJ (xg x), 60, .inr (.inl v15))), (a23, .inr (7, [.ref a24, .int v16])), (a24, .inl (gJ (xg x), 60, .inr (.inl v17))), (a25, .inr (3, [.ref a26])), (a26, .inl (gI (xg x), 32, .inl v18)), (a27, .inr (9, [.int v19, .ref a28, .int v20, .ref a29, .ref a30, .ref a31, .ref a32, .ref v30, .ref v33, .ref v36, .int v21, .int v22, .ref a33, .int v23, .ref a34, .ref a35, .ref a36, .ref a37, .int v24])), (a28, .inl (gJ (xg x), 60, .inr (.inl v25))), (a29, .inl (gI (xg x), 27, .inl v26)), (a30, .inl (gI (xg x), 27, .inl v27)), (a31, .inl (gI (xg x), 27, .inl v28)), (a32, .inl (gI (xg x), 27, .inl v29)), (v30, .inl (gJ (xg x), v31, .inr (.inl v32))), (v33, .inl (gI (xg x), v34, .inl v35)), (v36, .inl (gZ (xg x), v37, .inl v38)), (a33, .inl (gI (xg x), 12, .inl v39)), (a34, .inl (gI (xg x), 27, .inl v40)), (a35, .inl (gI (xg x), 27, .inl v41)), (a36, .inl (gI (xg x), 60, .inl v42)), (a37, .inl (gI (xg x), 3, .inl v43))] ++ ZP (xg x) a39 v45) (rest := []) (c_L_basePriceOf (xl x) (xg x) hst a0 a8 a11 a38 a1 a13 a18 a25 a9 a12 v6 v44 (v47 (z4 + 1).toNatClampNeg) h) gL_law_L_basePriceOf (by rfl) rfl (by decide +kernel) ⟨⟨(Nat.le_of_ble_eq_true rfl), (Nat.le_of_ble_eq_true rfl)⟩, (Nat.le_trans (show k0 + 1 ≤ k0 + rc by omega) hk.1), (Nat.le_trans (show n0 + 6 ≤ n0 + rs by omega) hk.2)⟩ (Nat.le_of_ble_eq_true rfl) (sb_zr (sb_of [0, 8, 11, 41, 1, 2, 3, 4, 5, 6, 7, 9, 10, 12, 13, 14, 15, 16, 17, 18, 19, 20, 21, 22, 23, 24, 25, 26, 27, 28, 29, 30, 31, 32, 33, 34, 35, 36, 37, 38, 39, 40] rfl rfl)) rfl dL_law_1167 (fun v X1 hp => ?_)
    obtain ⟨r264, w265, rfl, rfl, h⟩ := hp
    have hk : k0 + 1 + mc266 ≤ (rm_L_law).cells ∧ n0 + 6 + ms267 ≤ (rm_L_law).slots := ⟨Nat.le_trans (show k0 + 1 + mc266 ≤ k0 + rc by omega) hk.1, Nat.le_trans (show n0 + 6 + ms267 ≤ n0 + rs by omega) hk.2⟩
    refine xw_X (sb_rz (sb_of [0, 4, 5, 6, 7, 8, 9, 10, 1, 11, 12, 2, 13, 14, 15, 16, 17, 18, 19, 20, 21, 22, 23, 24, 25, 26, 27, 28, 29, 30, 31, 32, 33, 34, 35, 36, 37, 38, 39, 40, 41, 3] rfl rfl)) (show ww x (W_L_law (xg x) a0 a1 a2 a3 a4 a5 a6 a7 a8 a9 a10 a11 a12 a13 a14 a15 a16 a17 a18 a19 a20 a21 a22 a23 a24 a25 a26 a27 a28 a29 a30 a31 a32 a33 a34 a35 a36 a37 a38 a39 ab v0 v1 v2 v3 v4 v5 v6 v7 v8 v9 v10 v11 v12 v13 v14 v15 v16 v17 v18 v19 v20 v21 v22 v23 v24 v25 v26 v27 v28 v29 v30 v31 v32 v33 v34 v35 v36 v37 v38 v39 v40 v41 v42 v43 w265 v46 v47 ++ ZP (xg x) a39 v45) [(0, .ref ab), (1, .ref a0), (2, .ref a27), (3, .ref a38), (4, .int z4)] (k0 + 1) (n0 + 6) 1170 [.int r264] from ?_)
    refine xw_istore hf (pc := 1170) dL_law_1170 [(5, .int r264), (0, .ref ab), (1, .ref a0), (2, .ref a27), (3, .ref a38), (4, .int z4)] hn (by decide) rfl ?_
    refine xw_aload_n hf (pc := 1172) dL_law_1172 rfl 3 rfl ?_
    refine xw_aload_n hf (pc := 1173) dL_law_1173 rfl 1 rfl ?_
    refine xw_iload hf (pc := 1174) dL_law_1174 5 rfl ?_
    refine xw_iconst hf (pc := 1176) dL_law_1176 (v := 1) (by decide) ?_
    refine xw_iadd hf (pc := 1177) dL_law_1177 ?_
    refine xw_sald hf hX dL_law_1178 h.1 ?_
    have h := h.2
    refine xw_callV hf (pc := 1179) (nA := 1) (Xr := [(a0, .inr (8, [.ref a1, .ref a8, .ref a13, .ref a18, .ref a25])), (a1, .inr (2, [.ref a2, .ref a4, .ref a6])), (a2, .inr (7, [.ref a3, .int v0])), (a3, .inl (gJ (xg x), 60, .inr (.inl v1))), (a4, .inr (7, [.ref a5, .int v2])), (a5, .inl (gJ (xg x), 60, .inr (.inl v3))), (a6, .inr (3, [.ref a7])), (a7, .inl (gI (xg x), 32, .inl v4)), (a8, .inr (6, [.ref a9, .ref a11, .ref a12])), (a9, .inr (3, [.ref a10])), (a10, .inl (gI (xg x), 32, .inl v5)), (a11, .inl (gI (xg x), 32, .inl v6)), (a12, .inl (gI (xg x), 32, .inl v7)), (a13, .inr (1, [.ref a39, .ref a14, .ref a16, .int v8])), (a14, .inr (3, [.ref a15])), (a15, .inl (gI (xg x), 32, .inl v9)), (a16, .inr (3, [.ref a17])), (a17, .inl (gI (xg x), 32, .inl v10)), (a18, .inr (4, [.ref a19, .ref a21, .ref a23, .int v11, .int v12])), (a19, .inr (3, [.ref a20])), (a20, .inl (gI (xg x), 32, .inl v13)), (a21, .inr (7, [.ref a22, .int v14])), (a22, .inl (gJ (xg x), 60, .inr (.inl v15))), (a23, .inr (7, [.ref a24, .int v16])), (a24, .inl (gJ (xg x), 60, .inr (.inl v17))), (a25, .inr (3, [.ref a26])), (a26, .inl (gI (xg x), 32, .inl v18)), (a28, .inl (gJ (xg x), 60, .inr (.inl v25))), (a29, .inl (gI (xg x), 27, .inl v26)), (a31, .inl (gI (xg x), 27, .inl v28)), (a32, .inl (gI (xg x), 27, .inl v29)), (v30, .inl (gJ (xg x), v31, .inr (.inl v32))), (v33, .inl (gI (xg x), v34, .inl v35)), (v36, .inl (gZ (xg x), v37, .inl v38)), (a33, .inl (gI (xg x), 12, .inl v39)), (a34, .inl (gI (xg x), 27, .inl v40)), (a35, .inl (gI (xg x), 27, .inl v41)), (a36, .inl (gI (xg x), 60, .inl v42)), (a37, .inl (gI (xg x), 3, .inl v43)), (a38, .inl (gJ (xg x), 1, .inr (.inl w265)))] ++ ZP (xg x) a39 v45) (rest := []) (T := TX9) (c_X9_basePriceOf (xl x) (xg x) a27 a30 a28 a29 a31 a32 v30 v33 v36 a33 a34 a35 a36 a37 v19 v20 v21 v22 v23 v24 v27 (v47 (z4 + 1).toNatClampNeg) h) gL_law_X9_basePriceOf (by rfl) rfl rfl (by decide +kernel) ⟨⟨(Nat.le_of_ble_eq_true rfl), (Nat.le_of_ble_eq_true rfl)⟩, (Nat.le_trans (Nat.le_add_right _ _) hk.1), (Nat.le_trans (Nat.le_add_right _ _) hk.2)⟩ (Nat.le_of_ble_eq_true rfl) rfl rfl (sb_zr (sb_of [27, 30, 0, 1, 2, 3, 4, 5, 6, 7, 8, 9, 10, 11, 12, 13, 14, 15, 16, 17, 18, 19, 20, 21, 22, 23, 24, 25, 26, 28, 29, 31, 32, 33, 34, 35, 36, 37, 38, 39, 40, 41] rfl rfl)) rfl dL_law_1179 (fun v X1 hp => ?_)
    obtain ⟨r268, w269, rfl, rfl, h⟩ := hp
    refine xw_X (sb_rz (sb_of [2, 3, 4, 5, 6, 7, 8, 9, 10, 11, 12, 13, 14, 15, 16, 17, 18, 19, 20, 21, 22, 23, 24, 25, 26, 27, 28, 0, 29, 30, 1, 31, 32, 33, 34, 35, 36, 37, 38, 39, 40, 41] rfl rfl)) (show ww x (W_L_law (xg x) a0 a1 a2 a3 a4 a5 a6 a7 a8 a9 a10 a11 a12 a13 a14 a15 a16 a17 a18 a19 a20 a21 a22 a23 a24 a25 a26 a27 a28 a29 a30 a31 a32 a33 a34 a35 a36 a37 a38 a39 ab v0 v1 v2 v3 v4 v5 v6 v7 v8 v9 v10 v11 v12 v13 v14 v15 v16 v17 v18 w269 v20 v21 v22 v23 v24 v25 v26 v27 v28 v29 v30 v31 v32 v33 v34 v35 v36 v37 v38 v39 v40 v41 v42 v43 w265 v46 v47 ++ ZP (xg x) a39 v45) [(5, .int r264), (0, .ref ab), (1, .ref a0), (2, .ref a27), (3, .ref a38), (4, .int z4)] (k0 + 1) (n0 + 6) 1182 [.int r268] from ?_)
    refine xw_istore hf (pc := 1182) dL_law_1182 [(6, .int r268), (5, .int r264), (0, .ref ab), (1, .ref a0), (2, .ref a27), (3, .ref a38), (4, .int z4)] hn (by decide) rfl ?_
    refine xw_aload_n hf (pc := 1184) dL_law_1184 rfl 4 rfl ?_
    refine xw_callV hf (pc := 1185) (nA := 0) (Xr := [(a0, .inr (8, [.ref a1, .ref a8, .ref a13, .ref a18, .ref a25])), (a1, .inr (2, [.ref a2, .ref a4, .ref a6])), (a2, .inr (7, [.ref a3, .int v0])), (a3, .inl (gJ (xg x), 60, .inr (.inl v1))), (a4, .inr (7, [.ref a5, .int v2])), (a5, .inl (gJ (xg x), 60, .inr (.inl v3))), (a6, .inr (3, [.ref a7])), (a7, .inl (gI (xg x), 32, .inl v4)), (a8, .inr (6, [.ref a9, .ref a11, .ref a12])), (a9, .inr (3, [.ref a10])), (a10, .inl (gI (xg x), 32, .inl v5)), (a11, .inl (gI (xg x), 32, .inl v6)), (a12, .inl (gI (xg x), 32, .inl v7)), (a13, .inr (1, [.ref a39, .ref a14, .ref a16, .int v8])), (a14, .inr (3, [.ref a15])), (a15, .inl (gI (xg x), 32, .inl v9)), (a16, .inr (3, [.ref a17])), (a17, .inl (gI (xg x), 32, .inl v10)), (a18, .inr (4, [.ref a19, .ref a21, .ref a23, .int v11, .int v12])), (a19, .inr (3, [.ref a20])), (a20, .inl (gI (xg x), 32, .inl v13)), (a21, .inr (7, [.ref a22, .int v14])), (a22, .inl (gJ (xg x), 60, .inr (.inl v15))), (a23, .inr (7, [.ref a24, .int v16])), (a24, .inl (gJ (xg x), 60, .inr (.inl v17))), (a25, .inr (3, [.ref a26])), (a26, .inl (gI (xg x), 32, .inl v18)), (a28, .inl (gJ (xg x), 60, .inr (.inl v25))), (a29, .inl (gI (xg x), 27, .inl v26)), (a30, .inl (gI (xg x), 27, .inl v27)), (a31, .inl (gI (xg x), 27, .inl v28)), (a32, .inl (gI (xg x), 27, .inl v29)), (v30, .inl (gJ (xg x), v31, .inr (.inl v32))), (v33, .inl (gI (xg x), v34, .inl v35)), (v36, .inl (gZ (xg x), v37, .inl v38)), (a33, .inl (gI (xg x), 12, .inl v39)), (a34, .inl (gI (xg x), 27, .inl v40)), (a35, .inl (gI (xg x), 27, .inl v41)), (a36, .inl (gI (xg x), 60, .inl v42)), (a37, .inl (gI (xg x), 3, .inl v43)), (a38, .inl (gJ (xg x), 1, .inr (.inl w265)))] ++ ZP (xg x) a39 v45) (rest := []) (T := TX9) (c_X9_thrown (xl x) (xg x) a27 a28 a29 a30 a31 a32 v30 v33 v36 a33 a34 a35 a36 a37 w269 v20 v21 v22 v23 v24 h) gL_law_X9_thrown (by rfl) rfl rfl (by decide +kernel) ⟨⟨(Nat.le_of_ble_eq_true rfl), (Nat.le_of_ble_eq_true rfl)⟩, (Nat.le_trans (Nat.le_add_right _ _) hk.1), (Nat.le_trans (Nat.le_add_right _ _) hk.2)⟩ (Nat.le_of_ble_eq_true rfl) rfl rfl (sb_zr (sb_of [27, 0, 1, 2, 3, 4, 5, 6, 7, 8, 9, 10, 11, 12, 13, 14, 15, 16, 17, 18, 19, 20, 21, 22, 23, 24, 25, 26, 28, 29, 30, 31, 32, 33, 34, 35, 36, 37, 38, 39, 40, 41] rfl rfl)) rfl dL_law_1185 (fun v X1 hp => ?_)
    obtain ⟨r270, rfl, rfl, h⟩ := hp
    refine xw_X (sb_rz (sb_of [1, 2, 3, 4, 5, 6, 7, 8, 9, 10, 11, 12, 13, 14, 15, 16, 17, 18, 19, 20, 21, 22, 23, 24, 25, 26, 27, 0, 28, 29, 30, 31, 32, 33, 34, 35, 36, 37, 38, 39, 40, 41] rfl rfl)) (show ww x (W_L_law (xg x) a0 a1 a2 a3 a4 a5 a6 a7 a8 a9 a10 a11 a12 a13 a14 a15 a16 a17 a18 a19 a20 a21 a22 a23 a24 a25 a26 a27 a28 a29 a30 a31 a32 a33 a34 a35 a36 a37 a38 a39 ab v0 v1 v2 v3 v4 v5 v6 v7 v8 v9 v10 v11 v12 v13 v14 v15 v16 v17 v18 w269 v20 v21 v22 v23 v24 v25 v26 v27 v28 v29 v30 v31 v32 v33 v34 v35 v36 v37 v38 v39 v40 v41 v42 v43 w265 v46 v47 ++ ZP (xg x) a39 v45) [(6, .int r268), (5, .int r264), (0, .ref ab), (1, .ref a0), (2, .ref a27), (3, .ref a38), (4, .int z4)] (k0 + 1) (n0 + 6) 1188 [.int r270] from ?_)
    refine xw_iload hf (pc := 1188) dL_law_1188 1 rfl ?_
    refine xw_icmp_eq hf (pc := 1190) dL_law_1190 (tgt := 1195) rfl ⟨fun c => ?_, fun c => ?_⟩
    · have h := h.1 c
      refine xw_iload hf (pc := 1195) dL_law_1195 1 rfl ?_
      refine xw_if_ne hf (pc := 1197) dL_law_1197 (c := r264 = 0) Iff.rfl (tgt := 1212) rfl ⟨fun c => ?_, fun c => ?_⟩
      · have h := h.1 c
        refine xw_aload_n hf (pc := 1200) dL_law_1200 rfl 5 rfl ?_
        refine xw_iconst hf (pc := 1201) dL_law_1201 (v := 0) (by decide) ?_
        refine xw_lald hf (pc := 1202) dL_law_1202 41 rfl h.1 ?_
        have h := h.2
        refine xw_iload hf (pc := 1203) dL_law_1203 0 rfl ?_
        refine xw_i2l hf (pc := 1205) dL_law_1205 ?_
        refine xw_lcmp hf (pc := 1206) dL_law_1206 ?_
        refine xw_if_eq hf (pc := 1207) dL_law_1207 (c := (w265 (0 : Int32).toNatClampNeg) = r268.toInt64) (lc_eq _ _) (tgt := 1212) rfl ⟨fun c => ?_, fun c => ?_⟩
        · have h := h.1 c
          refine xw_goto hf (pc := 1212) dL_law_1212 (tgt := 2681) rfl ?_
          refine xw_L [2, 3, 4, 5, 6] rfl ?_
          exact hK2681 _ _ _ _ hk _ _ h
        · have h := h.2 c
          refine xw_iconst hf (pc := 1210) dL_law_1210 (v := 0) (by decide) ?_
          exact h.elim
      · have h := h.2 c
        refine xw_goto hf (pc := 1212) dL_law_1212 (tgt := 2681) rfl ?_
        refine xw_L [2, 3, 4, 5, 6] rfl ?_
        exact hK2681 _ _ _ _ hk _ _ h
    · have h := h.2 c
      refine xw_iconst hf (pc := 1193) dL_law_1193 (v := 0) (by decide) ?_
      exact h.elim
set_option maxHeartbeats 4000000 in
set_option maxRecDepth 100000 in
theorem w_L_law_L1215 {x : Cx} {mc ms : Nat} (hf : fx x (rm_L_law) RL cL_law wsL_law) (hn : xn x = 8) {k0 n0 rc rs : Nat} (hk : k0 + rc ≤ (rm_L_law).cells ∧ n0 + rs ≤ (rm_L_law).slots) (a0 a1 a2 a3 a4 a5 a6 a7 a8 a9 a10 a11 a12 a13 a14 a15 a16 a17 a18 a19 a20 a21 a22 a23 a24 a25 a26 a27 a28 a29 a30 a31 a32 a33 a34 a35 a36 a37 a38 a39 ab : Nat) (z4 : Int32) (v5 : Nat → Int32) (v6 : Nat → Int32) (v20 : Int32) (v21 : Int32) (v22 : Int32) (v23 : Int32) (v24 : Int32) (v26 : Nat → Int32) (v27 : Nat → Int32) (v46 : Nat) (v47 : Nat → Int32) (v0 : Int32) (v1 : Nat → Int64) (v2 : Int32) (v3 : Nat → Int64) (v4 : Nat → Int32) (v7 : Nat → Int32) (v8 : Int32) (v9 : Nat → Int32) (v10 : Nat → Int32) (v11 : Int32) (v12 : Int32) (v13 : Nat → Int32) (v14 : Int32) (v15 : Nat → Int64) (v16 : Int32) (v17 : Nat → Int64) (v18 : Nat → Int32) (v25 : Nat → Int64) (v28 : Nat → Int32) (v29 : Nat → Int32) (v30 : Nat) (v31 : Nat) (v32 : Nat → Int64) (v33 : Nat) (v34 : Nat) (v35 : Nat → Int32) (v36 : Nat) (v37 : Nat) (v38 : Nat → Int32) (v39 : Nat → Int32) (v40 : Nat → Int32) (v41 : Nat → Int32) (v42 : Nat → Int32) (v43 : Nat → Int32) (v45 : ZL) {K2681 : Nat → Nat → Int32 → (Nat → Int64) → Prop} (hst : (xl x).stackTraces = false) (hX : sX x ab v46 v47)
    (n : Nat) (v19 : Int32) (v44 : Nat → Int64) (h : P_L_law_L1215 z4 v5 v6 v20 v21 v22 v23 v24 v26 v27 v46 v47 K2681 n rc rs v19 v44)
    (hK2681 : ∀ (k0 n0 rc rs : Nat), k0 + rc ≤ (rm_L_law).cells ∧ n0 + rs ≤ (rm_L_law).slots → ∀ (uv19 : Int32), ∀ (uv44 : Nat → Int64), K2681 rc rs uv19 uv44 → ww x (W_L_law (xg x) a0 a1 a2 a3 a4 a5 a6 a7 a8 a9 a10 a11 a12 a13 a14 a15 a16 a17 a18 a19 a20 a21 a22 a23 a24 a25 a26 a27 a28 a29 a30 a31 a32 a33 a34 a35 a36 a37 a38 a39 ab v0 v1 v2 v3 v4 v5 v6 v7 v8 v9 v10 v11 v12 v13 v14 v15 v16 v17 v18 uv19 v20 v21 v22 v23 v24 v25 v26 v27 v28 v29 v30 v31 v32 v33 v34 v35 v36 v37 v38 v39 v40 v41 v42 v43 uv44 v46 v47 ++ ZP (xg x) a39 v45) [(0, .ref ab), (1, .ref a0), (2, .ref a27), (3, .ref a38), (4, .int z4)] k0 n0 2681 []) :
    ww x (W_L_law (xg x) a0 a1 a2 a3 a4 a5 a6 a7 a8 a9 a10 a11 a12 a13 a14 a15 a16 a17 a18 a19 a20 a21 a22 a23 a24 a25 a26 a27 a28 a29 a30 a31 a32 a33 a34 a35 a36 a37 a38 a39 ab v0 v1 v2 v3 v4 v5 v6 v7 v8 v9 v10 v11 v12 v13 v14 v15 v16 v17 v18 v19 v20 v21 v22 v23 v24 v25 v26 v27 v28 v29 v30 v31 v32 v33 v34 v35 v36 v37 v38 v39 v40 v41 v42 v43 v44 v46 v47 ++ ZP (xg x) a39 v45) [(0, .ref ab), (1, .ref a0), (2, .ref a27), (3, .ref a38), (4, .int z4)] k0 n0 1215 [] := by
  induction n generalizing k0 n0 rc rs v19 v44 with
  | zero => exact h.elim
  | succ n ih =>
    unfold P_L_law_L1215 at h
    refine xw_aload_n hf (pc := 1215) dL_law_1215 rfl 1 rfl ?_
    refine xw_aload_n hf (pc := 1216) dL_law_1216 rfl 0 rfl ?_
    refine xw_iload hf (pc := 1217) dL_law_1217 4 rfl ?_
    refine xw_iconst hf (pc := 1219) dL_law_1219 (v := 1) (by decide) ?_
    refine xw_iadd hf (pc := 1220) dL_law_1220 ?_
    refine xw_sald hf hX dL_law_1221 h.1 ?_
    have h := h.2
    refine xw_aload_n hf (pc := 1222) dL_law_1222 rfl 3 rfl ?_
    obtain ⟨mc279, ms280, ⟨hb1, hb2⟩, h⟩ := h
    refine xw_callSW hf (pc := 1223) (nA := 3) (Xr := [(a1, .inr (2, [.ref a2, .ref a4, .ref a6])), (a2, .inr (7, [.ref a3, .int v0])), (a3, .inl (gJ (xg x), 60, .inr (.inl v1))), (a4, .inr (7, [.ref a5, .int v2])), (a5, .inl (gJ (xg x), 60, .inr (.inl v3))), (a6, .inr (3, [.ref a7])), (a7, .inl (gI (xg x), 32, .inl v4)), (a12, .inl (gI (xg x), 32, .inl v7)), (a13, .inr (1, [.ref a39, .ref a14, .ref a16, .int v8])), (a14, .inr (3, [.ref a15])), (a15, .inl (gI (xg x), 32, .inl v9)), (a16, .inr (3, [.ref a17])), (a17, .inl (gI (xg x), 32, .inl v10)), (a18, .inr (4, [.ref a19, .ref a21, .ref a23, .int v11, .int v12])), (a19, .inr (3, [.ref a20])), (a20, .inl (gI (xg x), 32, .inl v13)), (a21, .inr (7, [.ref a22, .int v14])), (a22, .inl (gJ (xg x), 60, .inr (.inl v15))), (a23, .inr (7, [.ref a24, .int v16])), (a24, .inl (gJ (xg x), 60, .inr (.inl v17))), (a25, .inr (3, [.ref a26])), (a26, .inl (gI (xg x), 32, .inl v18)), (a27, .inr (9, [.int v19, .ref a28, .int v20, .ref a29, .ref a30, .ref a31, .ref a32, .ref v30, .ref v33, .ref v36, .int v21, .int v22, .ref a33, .int v23, .ref a34, .ref a35, .ref a36, .ref a37, .int v24])), (a28, .inl (gJ (xg x), 60, .inr (.inl v25))), (a29, .inl (gI (xg x), 27, .inl v26)), (a30, .inl (gI (xg x), 27, .inl v27)), (a31, .inl (gI (xg x), 27, .inl v28)), (a32, .inl (gI (xg x), 27, .inl v29)), (v30, .inl (gJ (xg x), v31, .inr (.inl v32))), (v33, .inl (gI (xg x), v34, .inl v35)), (v36, .inl (gZ (xg x), v37, .inl v38)), (a33, .inl (gI (xg x), 12, .inl v39)), (a34, .inl (gI (xg x), 27, .inl v40)), (a35, .inl (gI (xg x), 27, .inl v41)), (a36, .inl (gI (xg x), 60, .inl v42)), (a37, .inl (gI (xg x), 3, .inl v43))] ++ ZP (xg x) a39 v45) (rest := []) (c_L_presentPriceOf (xl x) (xg x) hst a0 a8 a9 a10 a11 a38 a1 a13 a18 a25 a12 v5 v6 v44 (v47 (z4 + 1).toNatClampNeg) h) gL_law_L_presentPriceOf (by rfl) rfl (by decide +kernel) ⟨⟨(Nat.le_of_ble_eq_true rfl), (Nat.le_of_ble_eq_true rfl)⟩, (Nat.le_trans (show k0 + 1 ≤ k0 + rc by omega) hk.1), (Nat.le_trans (show n0 + 6 ≤ n0 + rs by omega) hk.2)⟩ (Nat.le_of_ble_eq_true rfl) (sb_zr (sb_of [0, 8, 9, 10, 11, 41, 1, 2, 3, 4, 5, 6, 7, 12, 13, 14, 15, 16, 17, 18, 19, 20, 21, 22, 23, 24, 25, 26, 27, 28, 29, 30, 31, 32, 33, 34, 35, 36, 37, 38, 39, 40] rfl rfl)) rfl dL_law_1223 (fun v X1 hp => ?_)
    obtain ⟨r277, w278, rfl, rfl, h⟩ := hp
    have hk : k0 + 1 + mc279 ≤ (rm_L_law).cells ∧ n0 + 6 + ms280 ≤ (rm_L_law).slots := ⟨Nat.le_trans (show k0 + 1 + mc279 ≤ k0 + rc by omega) hk.1, Nat.le_trans (show n0 + 6 + ms280 ≤ n0 + rs by omega) hk.2⟩
    refine xw_X (sb_rz (sb_of [0, 6, 7, 8, 9, 10, 11, 12, 1, 2, 3, 4, 13, 14, 15, 16, 17, 18, 19, 20, 21, 22, 23, 24, 25, 26, 27, 28, 29, 30, 31, 32, 33, 34, 35, 36, 37, 38, 39, 40, 41, 5] rfl rfl)) (show ww x (W_L_law (xg x) a0 a1 a2 a3 a4 a5 a6 a7 a8 a9 a10 a11 a12 a13 a14 a15 a16 a17 a18 a19 a20 a21 a22 a23 a24 a25 a26 a27 a28 a29 a30 a31 a32 a33 a34 a35 a36 a37 a38 a39 ab v0 v1 v2 v3 v4 v5 v6 v7 v8 v9 v10 v11 v12 v13 v14 v15 v16 v17 v18 v19 v20 v21 v22 v23 v24 v25 v26 v27 v28 v29 v30 v31 v32 v33 v34 v35 v36 v37 v38 v39 v40 v41 v42 v43 w278 v46 v47 ++ ZP (xg x) a39 v45) [(0, .ref ab), (1, .ref a0), (2, .ref a27), (3, .ref a38), (4, .int z4)] (k0 + 1) (n0 + 6) 1226 [.int r277] from ?_)
    refine xw_istore hf (pc := 1226) dL_law_1226 [(5, .int r277), (0, .ref ab), (1, .ref a0), (2, .ref a27), (3, .ref a38), (4, .int z4)] hn (by decide) rfl ?_
    refine xw_aload_n hf (pc := 1228) dL_law_1228 rfl 3 rfl ?_
    refine xw_aload_n hf (pc := 1229) dL_law_1229 rfl 1 rfl ?_
    refine xw_iload hf (pc := 1230) dL_law_1230 5 rfl ?_
    refine xw_iconst hf (pc := 1232) dL_law_1232 (v := 1) (by decide) ?_
    refine xw_iadd hf (pc := 1233) dL_law_1233 ?_
    refine xw_sald hf hX dL_law_1234 h.1 ?_
    have h := h.2
    refine xw_callV hf (pc := 1235) (nA := 1) (Xr := [(a0, .inr (8, [.ref a1, .ref a8, .ref a13, .ref a18, .ref a25])), (a1, .inr (2, [.ref a2, .ref a4, .ref a6])), (a2, .inr (7, [.ref a3, .int v0])), (a3, .inl (gJ (xg x), 60, .inr (.inl v1))), (a4, .inr (7, [.ref a5, .int v2])), (a5, .inl (gJ (xg x), 60, .inr (.inl v3))), (a6, .inr (3, [.ref a7])), (a7, .inl (gI (xg x), 32, .inl v4)), (a8, .inr (6, [.ref a9, .ref a11, .ref a12])), (a9, .inr (3, [.ref a10])), (a10, .inl (gI (xg x), 32, .inl v5)), (a11, .inl (gI (xg x), 32, .inl v6)), (a12, .inl (gI (xg x), 32, .inl v7)), (a13, .inr (1, [.ref a39, .ref a14, .ref a16, .int v8])), (a14, .inr (3, [.ref a15])), (a15, .inl (gI (xg x), 32, .inl v9)), (a16, .inr (3, [.ref a17])), (a17, .inl (gI (xg x), 32, .inl v10)), (a18, .inr (4, [.ref a19, .ref a21, .ref a23, .int v11, .int v12])), (a19, .inr (3, [.ref a20])), (a20, .inl (gI (xg x), 32, .inl v13)), (a21, .inr (7, [.ref a22, .int v14])), (a22, .inl (gJ (xg x), 60, .inr (.inl v15))), (a23, .inr (7, [.ref a24, .int v16])), (a24, .inl (gJ (xg x), 60, .inr (.inl v17))), (a25, .inr (3, [.ref a26])), (a26, .inl (gI (xg x), 32, .inl v18)), (a28, .inl (gJ (xg x), 60, .inr (.inl v25))), (a31, .inl (gI (xg x), 27, .inl v28)), (a32, .inl (gI (xg x), 27, .inl v29)), (v30, .inl (gJ (xg x), v31, .inr (.inl v32))), (v33, .inl (gI (xg x), v34, .inl v35)), (v36, .inl (gZ (xg x), v37, .inl v38)), (a33, .inl (gI (xg x), 12, .inl v39)), (a34, .inl (gI (xg x), 27, .inl v40)), (a35, .inl (gI (xg x), 27, .inl v41)), (a36, .inl (gI (xg x), 60, .inl v42)), (a37, .inl (gI (xg x), 3, .inl v43)), (a38, .inl (gJ (xg x), 1, .inr (.inl w278)))] ++ ZP (xg x) a39 v45) (rest := []) (T := TX9) (c_X9_presentPriceOf (xl x) (xg x) a27 a29 a30 a28 a31 a32 v30 v33 v36 a33 a34 a35 a36 a37 v19 v20 v21 v22 v23 v24 v26 v27 (v47 (z4 + 1).toNatClampNeg) h) gL_law_X9_presentPriceOf (by rfl) rfl rfl (by decide +kernel) ⟨⟨(Nat.le_of_ble_eq_true rfl), (Nat.le_of_ble_eq_true rfl)⟩, (Nat.le_trans (Nat.le_add_right _ _) hk.1), (Nat.le_trans (Nat.le_add_right _ _) hk.2)⟩ (Nat.le_of_ble_eq_true rfl) rfl rfl (sb_zr (sb_of [27, 29, 30, 0, 1, 2, 3, 4, 5, 6, 7, 8, 9, 10, 11, 12, 13, 14, 15, 16, 17, 18, 19, 20, 21, 22, 23, 24, 25, 26, 28, 31, 32, 33, 34, 35, 36, 37, 38, 39, 40, 41] rfl rfl)) rfl dL_law_1235 (fun v X1 hp => ?_)
    obtain ⟨r281, w282, rfl, rfl, h⟩ := hp
    refine xw_X (sb_rz (sb_of [3, 4, 5, 6, 7, 8, 9, 10, 11, 12, 13, 14, 15, 16, 17, 18, 19, 20, 21, 22, 23, 24, 25, 26, 27, 28, 29, 0, 30, 1, 2, 31, 32, 33, 34, 35, 36, 37, 38, 39, 40, 41] rfl rfl)) (show ww x (W_L_law (xg x) a0 a1 a2 a3 a4 a5 a6 a7 a8 a9 a10 a11 a12 a13 a14 a15 a16 a17 a18 a19 a20 a21 a22 a23 a24 a25 a26 a27 a28 a29 a30 a31 a32 a33 a34 a35 a36 a37 a38 a39 ab v0 v1 v2 v3 v4 v5 v6 v7 v8 v9 v10 v11 v12 v13 v14 v15 v16 v17 v18 w282 v20 v21 v22 v23 v24 v25 v26 v27 v28 v29 v30 v31 v32 v33 v34 v35 v36 v37 v38 v39 v40 v41 v42 v43 w278 v46 v47 ++ ZP (xg x) a39 v45) [(5, .int r277), (0, .ref ab), (1, .ref a0), (2, .ref a27), (3, .ref a38), (4, .int z4)] (k0 + 1) (n0 + 6) 1238 [.int r281] from ?_)
    refine xw_istore hf (pc := 1238) dL_law_1238 [(6, .int r281), (5, .int r277), (0, .ref ab), (1, .ref a0), (2, .ref a27), (3, .ref a38), (4, .int z4)] hn (by decide) rfl ?_
    refine xw_aload_n hf (pc := 1240) dL_law_1240 rfl 4 rfl ?_
    refine xw_callV hf (pc := 1241) (nA := 0) (Xr := [(a0, .inr (8, [.ref a1, .ref a8, .ref a13, .ref a18, .ref a25])), (a1, .inr (2, [.ref a2, .ref a4, .ref a6])), (a2, .inr (7, [.ref a3, .int v0])), (a3, .inl (gJ (xg x), 60, .inr (.inl v1))), (a4, .inr (7, [.ref a5, .int v2])), (a5, .inl (gJ (xg x), 60, .inr (.inl v3))), (a6, .inr (3, [.ref a7])), (a7, .inl (gI (xg x), 32, .inl v4)), (a8, .inr (6, [.ref a9, .ref a11, .ref a12])), (a9, .inr (3, [.ref a10])), (a10, .inl (gI (xg x), 32, .inl v5)), (a11, .inl (gI (xg x), 32, .inl v6)), (a12, .inl (gI (xg x), 32, .inl v7)), (a13, .inr (1, [.ref a39, .ref a14, .ref a16, .int v8])), (a14, .inr (3, [.ref a15])), (a15, .inl (gI (xg x), 32, .inl v9)), (a16, .inr (3, [.ref a17])), (a17, .inl (gI (xg x), 32, .inl v10)), (a18, .inr (4, [.ref a19, .ref a21, .ref a23, .int v11, .int v12])), (a19, .inr (3, [.ref a20])), (a20, .inl (gI (xg x), 32, .inl v13)), (a21, .inr (7, [.ref a22, .int v14])), (a22, .inl (gJ (xg x), 60, .inr (.inl v15))), (a23, .inr (7, [.ref a24, .int v16])), (a24, .inl (gJ (xg x), 60, .inr (.inl v17))), (a25, .inr (3, [.ref a26])), (a26, .inl (gI (xg x), 32, .inl v18)), (a28, .inl (gJ (xg x), 60, .inr (.inl v25))), (a29, .inl (gI (xg x), 27, .inl v26)), (a30, .inl (gI (xg x), 27, .inl v27)), (a31, .inl (gI (xg x), 27, .inl v28)), (a32, .inl (gI (xg x), 27, .inl v29)), (v30, .inl (gJ (xg x), v31, .inr (.inl v32))), (v33, .inl (gI (xg x), v34, .inl v35)), (v36, .inl (gZ (xg x), v37, .inl v38)), (a33, .inl (gI (xg x), 12, .inl v39)), (a34, .inl (gI (xg x), 27, .inl v40)), (a35, .inl (gI (xg x), 27, .inl v41)), (a36, .inl (gI (xg x), 60, .inl v42)), (a37, .inl (gI (xg x), 3, .inl v43)), (a38, .inl (gJ (xg x), 1, .inr (.inl w278)))] ++ ZP (xg x) a39 v45) (rest := []) (T := TX9) (c_X9_thrown (xl x) (xg x) a27 a28 a29 a30 a31 a32 v30 v33 v36 a33 a34 a35 a36 a37 w282 v20 v21 v22 v23 v24 h) gL_law_X9_thrown (by rfl) rfl rfl (by decide +kernel) ⟨⟨(Nat.le_of_ble_eq_true rfl), (Nat.le_of_ble_eq_true rfl)⟩, (Nat.le_trans (Nat.le_add_right _ _) hk.1), (Nat.le_trans (Nat.le_add_right _ _) hk.2)⟩ (Nat.le_of_ble_eq_true rfl) rfl rfl (sb_zr (sb_of [27, 0, 1, 2, 3, 4, 5, 6, 7, 8, 9, 10, 11, 12, 13, 14, 15, 16, 17, 18, 19, 20, 21, 22, 23, 24, 25, 26, 28, 29, 30, 31, 32, 33, 34, 35, 36, 37, 38, 39, 40, 41] rfl rfl)) rfl dL_law_1241 (fun v X1 hp => ?_)
    obtain ⟨r283, rfl, rfl, h⟩ := hp
    refine xw_X (sb_rz (sb_of [1, 2, 3, 4, 5, 6, 7, 8, 9, 10, 11, 12, 13, 14, 15, 16, 17, 18, 19, 20, 21, 22, 23, 24, 25, 26, 27, 0, 28, 29, 30, 31, 32, 33, 34, 35, 36, 37, 38, 39, 40, 41] rfl rfl)) (show ww x (W_L_law (xg x) a0 a1 a2 a3 a4 a5 a6 a7 a8 a9 a10 a11 a12 a13 a14 a15 a16 a17 a18 a19 a20 a21 a22 a23 a24 a25 a26 a27 a28 a29 a30 a31 a32 a33 a34 a35 a36 a37 a38 a39 ab v0 v1 v2 v3 v4 v5 v6 v7 v8 v9 v10 v11 v12 v13 v14 v15 v16 v17 v18 w282 v20 v21 v22 v23 v24 v25 v26 v27 v28 v29 v30 v31 v32 v33 v34 v35 v36 v37 v38 v39 v40 v41 v42 v43 w278 v46 v47 ++ ZP (xg x) a39 v45) [(6, .int r281), (5, .int r277), (0, .ref ab), (1, .ref a0), (2, .ref a27), (3, .ref a38), (4, .int z4)] (k0 + 1) (n0 + 6) 1244 [.int r283] from ?_)
    refine xw_iload hf (pc := 1244) dL_law_1244 1 rfl ?_
    refine xw_icmp_eq hf (pc := 1246) dL_law_1246 (tgt := 1251) rfl ⟨fun c => ?_, fun c => ?_⟩
    · have h := h.1 c
      refine xw_iload hf (pc := 1251) dL_law_1251 1 rfl ?_
      refine xw_if_ne hf (pc := 1253) dL_law_1253 (c := r277 = 0) Iff.rfl (tgt := 1268) rfl ⟨fun c => ?_, fun c => ?_⟩
      · have h := h.1 c
        refine xw_aload_n hf (pc := 1256) dL_law_1256 rfl 5 rfl ?_
        refine xw_iconst hf (pc := 1257) dL_law_1257 (v := 0) (by decide) ?_
        refine xw_lald hf (pc := 1258) dL_law_1258 41 rfl h.1 ?_
        have h := h.2
        refine xw_iload hf (pc := 1259) dL_law_1259 0 rfl ?_
        refine xw_i2l hf (pc := 1261) dL_law_1261 ?_
        refine xw_lcmp hf (pc := 1262) dL_law_1262 ?_
        refine xw_if_eq hf (pc := 1263) dL_law_1263 (c := (w278 (0 : Int32).toNatClampNeg) = r281.toInt64) (lc_eq _ _) (tgt := 1268) rfl ⟨fun c => ?_, fun c => ?_⟩
        · have h := h.1 c
          refine xw_goto hf (pc := 1268) dL_law_1268 (tgt := 2681) rfl ?_
          refine xw_L [2, 3, 4, 5, 6] rfl ?_
          exact hK2681 _ _ _ _ hk _ _ h
        · have h := h.2 c
          refine xw_iconst hf (pc := 1266) dL_law_1266 (v := 0) (by decide) ?_
          exact h.elim
      · have h := h.2 c
        refine xw_goto hf (pc := 1268) dL_law_1268 (tgt := 2681) rfl ?_
        refine xw_L [2, 3, 4, 5, 6] rfl ?_
        exact hK2681 _ _ _ _ hk _ _ h
    · have h := h.2 c
      refine xw_iconst hf (pc := 1249) dL_law_1249 (v := 0) (by decide) ?_
      exact h.elim
set_option maxHeartbeats 4000000 in
set_option maxRecDepth 100000 in
theorem w_L_law_L1271 {x : Cx} {mc ms : Nat} (hf : fx x (rm_L_law) RL cL_law wsL_law) (hn : xn x = 8) {k0 n0 rc rs : Nat} (hk : k0 + rc ≤ (rm_L_law).cells ∧ n0 + rs ≤ (rm_L_law).slots) (a0 a1 a2 a3 a4 a5 a6 a7 a8 a9 a10 a11 a12 a13 a14 a15 a16 a17 a18 a19 a20 a21 a22 a23 a24 a25 a26 a27 a28 a29 a30 a31 a32 a33 a34 a35 a36 a37 a38 a39 ab : Nat) (z4 : Int32) (v7 : Nat → Int32) (v20 : Int32) (v21 : Int32) (v22 : Int32) (v23 : Int32) (v24 : Int32) (v46 : Nat) (v47 : Nat → Int32) (v0 : Int32) (v1 : Nat → Int64) (v2 : Int32) (v3 : Nat → Int64) (v4 : Nat → Int32) (v5 : Nat → Int32) (v6 : Nat → Int32) (v8 : Int32) (v9 : Nat → Int32) (v10 : Nat → Int32) (v11 : Int32) (v12 : Int32) (v13 : Nat → Int32) (v14 : Int32) (v15 : Nat → Int64) (v16 : Int32) (v17 : Nat → Int64) (v18 : Nat → Int32) (v25 : Nat → Int64) (v26 : Nat → Int32) (v27 : Nat → Int32) (v28 : Nat → Int32) (v29 : Nat → Int32) (v30 : Nat) (v31 : Nat) (v32 : Nat → Int64) (v33 : Nat) (v34 : Nat) (v35 : Nat → Int32) (v36 : Nat) (v37 : Nat) (v38 : Nat → Int32) (v39 : Nat → Int32) (v40 : Nat → Int32) (v41 : Nat → Int32) (v42 : Nat → Int32) (v43 : Nat → Int32) (v45 : ZL) {K2681 : Nat → Nat → Int32 → (Nat → Int64) → Prop} (hst : (xl x).stackTraces = false) (hX : sX x ab v46 v47)
    (n : Nat) (v19 : Int32) (v44 : Nat → Int64) (h : P_L_law_L1271 z4 v7 v20 v21 v22 v23 v24 v46 v47 K2681 n rc rs v19 v44)
    (hK2681 : ∀ (k0 n0 rc rs : Nat), k0 + rc ≤ (rm_L_law).cells ∧ n0 + rs ≤ (rm_L_law).slots → ∀ (uv19 : Int32), ∀ (uv44 : Nat → Int64), K2681 rc rs uv19 uv44 → ww x (W_L_law (xg x) a0 a1 a2 a3 a4 a5 a6 a7 a8 a9 a10 a11 a12 a13 a14 a15 a16 a17 a18 a19 a20 a21 a22 a23 a24 a25 a26 a27 a28 a29 a30 a31 a32 a33 a34 a35 a36 a37 a38 a39 ab v0 v1 v2 v3 v4 v5 v6 v7 v8 v9 v10 v11 v12 v13 v14 v15 v16 v17 v18 uv19 v20 v21 v22 v23 v24 v25 v26 v27 v28 v29 v30 v31 v32 v33 v34 v35 v36 v37 v38 v39 v40 v41 v42 v43 uv44 v46 v47 ++ ZP (xg x) a39 v45) [(0, .ref ab), (1, .ref a0), (2, .ref a27), (3, .ref a38), (4, .int z4)] k0 n0 2681 []) :
    ww x (W_L_law (xg x) a0 a1 a2 a3 a4 a5 a6 a7 a8 a9 a10 a11 a12 a13 a14 a15 a16 a17 a18 a19 a20 a21 a22 a23 a24 a25 a26 a27 a28 a29 a30 a31 a32 a33 a34 a35 a36 a37 a38 a39 ab v0 v1 v2 v3 v4 v5 v6 v7 v8 v9 v10 v11 v12 v13 v14 v15 v16 v17 v18 v19 v20 v21 v22 v23 v24 v25 v26 v27 v28 v29 v30 v31 v32 v33 v34 v35 v36 v37 v38 v39 v40 v41 v42 v43 v44 v46 v47 ++ ZP (xg x) a39 v45) [(0, .ref ab), (1, .ref a0), (2, .ref a27), (3, .ref a38), (4, .int z4)] k0 n0 1271 [] := by
  induction n generalizing k0 n0 rc rs v19 v44 with
  | zero => exact h.elim
  | succ n ih =>
    unfold P_L_law_L1271 at h
    refine xw_aload_n hf (pc := 1271) dL_law_1271 rfl 1 rfl ?_
    refine xw_aload_n hf (pc := 1272) dL_law_1272 rfl 0 rfl ?_
    refine xw_iload hf (pc := 1273) dL_law_1273 4 rfl ?_
    refine xw_iconst hf (pc := 1275) dL_law_1275 (v := 1) (by decide) ?_
    refine xw_iadd hf (pc := 1276) dL_law_1276 ?_
    refine xw_sald hf hX dL_law_1277 h.1 ?_
    have h := h.2
    refine xw_i2l hf (pc := 1278) dL_law_1278 ?_
    refine xw_bipush hf (pc := 1279) dL_law_1279 (v := 32) (by decide) ?_
    refine xw_lshl hf (pc := 1281) dL_law_1281 ?_
    refine xw_aload_n hf (pc := 1282) dL_law_1282 rfl 0 rfl ?_
    refine xw_iload hf (pc := 1283) dL_law_1283 4 rfl ?_
    refine xw_iconst hf (pc := 1285) dL_law_1285 (v := 2) (by decide) ?_
    refine xw_iadd hf (pc := 1286) dL_law_1286 ?_
    refine xw_sald hf hX dL_law_1287 h.1 ?_
    have h := h.2
    refine xw_i2l hf (pc := 1288) dL_law_1288 ?_
    refine xw_ldc2 hf (pc := 1289) dL_law_1289 mw_L_law_0 ?_
    refine xw_land hf (pc := 1292) dL_law_1292 ?_
    refine xw_lor hf (pc := 1293) dL_law_1293 ?_
    refine xw_aload_n hf (pc := 1294) dL_law_1294 rfl 3 rfl ?_
    obtain ⟨mc292, ms293, ⟨hb1, hb2⟩, h⟩ := h
    refine xw_callSW hf (pc := 1295) (nA := 3) (Xr := [(a1, .inr (2, [.ref a2, .ref a4, .ref a6])), (a2, .inr (7, [.ref a3, .int v0])), (a3, .inl (gJ (xg x), 60, .inr (.inl v1))), (a4, .inr (7, [.ref a5, .int v2])), (a5, .inl (gJ (xg x), 60, .inr (.inl v3))), (a6, .inr (3, [.ref a7])), (a7, .inl (gI (xg x), 32, .inl v4)), (a9, .inr (3, [.ref a10])), (a10, .inl (gI (xg x), 32, .inl v5)), (a11, .inl (gI (xg x), 32, .inl v6)), (a13, .inr (1, [.ref a39, .ref a14, .ref a16, .int v8])), (a14, .inr (3, [.ref a15])), (a15, .inl (gI (xg x), 32, .inl v9)), (a16, .inr (3, [.ref a17])), (a17, .inl (gI (xg x), 32, .inl v10)), (a18, .inr (4, [.ref a19, .ref a21, .ref a23, .int v11, .int v12])), (a19, .inr (3, [.ref a20])), (a20, .inl (gI (xg x), 32, .inl v13)), (a21, .inr (7, [.ref a22, .int v14])), (a22, .inl (gJ (xg x), 60, .inr (.inl v15))), (a23, .inr (7, [.ref a24, .int v16])), (a24, .inl (gJ (xg x), 60, .inr (.inl v17))), (a25, .inr (3, [.ref a26])), (a26, .inl (gI (xg x), 32, .inl v18)), (a27, .inr (9, [.int v19, .ref a28, .int v20, .ref a29, .ref a30, .ref a31, .ref a32, .ref v30, .ref v33, .ref v36, .int v21, .int v22, .ref a33, .int v23, .ref a34, .ref a35, .ref a36, .ref a37, .int v24])), (a28, .inl (gJ (xg x), 60, .inr (.inl v25))), (a29, .inl (gI (xg x), 27, .inl v26)), (a30, .inl (gI (xg x), 27, .inl v27)), (a31, .inl (gI (xg x), 27, .inl v28)), (a32, .inl (gI (xg x), 27, .inl v29)), (v30, .inl (gJ (xg x), v31, .inr (.inl v32))), (v33, .inl (gI (xg x), v34, .inl v35)), (v36, .inl (gZ (xg x), v37, .inl v38)), (a33, .inl (gI (xg x), 12, .inl v39)), (a34, .inl (gI (xg x), 27, .inl v40)), (a35, .inl (gI (xg x), 27, .inl v41)), (a36, .inl (gI (xg x), 60, .inl v42)), (a37, .inl (gI (xg x), 3, .inl v43))] ++ ZP (xg x) a39 v45) (rest := []) (c_L_weightOf (xl x) (xg x) hst a0 a8 a12 a38 a1 a13 a18 a25 a9 a11 v7 v44 ((((v47 (z4 + 1).toNatClampNeg).toInt64) <<< ((32 : Int32).toInt64 &&& 63)) ||| (((v47 (z4 + 2).toNatClampNeg).toInt64) &&& 4294967295)) h) gL_law_L_weightOf (by rfl) rfl (by decide +kernel) ⟨⟨(Nat.le_of_ble_eq_true rfl), (Nat.le_of_ble_eq_true rfl)⟩, (Nat.le_trans (show k0 + 1 ≤ k0 + rc by omega) hk.1), (Nat.le_trans (show n0 + 6 ≤ n0 + rs by omega) hk.2)⟩ (Nat.le_of_ble_eq_true rfl) (sb_zr (sb_of [0, 8, 12, 41, 1, 2, 3, 4, 5, 6, 7, 9, 10, 11, 13, 14, 15, 16, 17, 18, 19, 20, 21, 22, 23, 24, 25, 26, 27, 28, 29, 30, 31, 32, 33, 34, 35, 36, 37, 38, 39, 40] rfl rfl)) rfl dL_law_1295 (fun v X1 hp => ?_)
    obtain ⟨r290, w291, rfl, rfl, h⟩ := hp
    have hk : k0 + 1 + mc292 ≤ (rm_L_law).cells ∧ n0 + 6 + ms293 ≤ (rm_L_law).slots := ⟨Nat.le_trans (show k0 + 1 + mc292 ≤ k0 + rc by omega) hk.1, Nat.le_trans (show n0 + 6 + ms293 ≤ n0 + rs by omega) hk.2⟩
    refine xw_X (sb_rz (sb_of [0, 4, 5, 6, 7, 8, 9, 10, 1, 11, 12, 13, 2, 14, 15, 16, 17, 18, 19, 20, 21, 22, 23, 24, 25, 26, 27, 28, 29, 30, 31, 32, 33, 34, 35, 36, 37, 38, 39, 40, 41, 3] rfl rfl)) (show ww x (W_L_law (xg x) a0 a1 a2 a3 a4 a5 a6 a7 a8 a9 a10 a11 a12 a13 a14 a15 a16 a17 a18 a19 a20 a21 a22 a23 a24 a25 a26 a27 a28 a29 a30 a31 a32 a33 a34 a35 a36 a37 a38 a39 ab v0 v1 v2 v3 v4 v5 v6 v7 v8 v9 v10 v11 v12 v13 v14 v15 v16 v17 v18 v19 v20 v21 v22 v23 v24 v25 v26 v27 v28 v29 v30 v31 v32 v33 v34 v35 v36 v37 v38 v39 v40 v41 v42 v43 w291 v46 v47 ++ ZP (xg x) a39 v45) [(0, .ref ab), (1, .ref a0), (2, .ref a27), (3, .ref a38), (4, .int z4)] (k0 + 1) (n0 + 6) 1298 [.int r290] from ?_)
    refine xw_istore hf (pc := 1298) dL_law_1298 [(5, .int r290), (0, .ref ab), (1, .ref a0), (2, .ref a27), (3, .ref a38), (4, .int z4)] hn (by decide) rfl ?_
    refine xw_aload_n hf (pc := 1300) dL_law_1300 rfl 3 rfl ?_
    refine xw_aload_n hf (pc := 1301) dL_law_1301 rfl 1 rfl ?_
    refine xw_iload hf (pc := 1302) dL_law_1302 5 rfl ?_
    refine xw_iconst hf (pc := 1304) dL_law_1304 (v := 1) (by decide) ?_
    refine xw_iadd hf (pc := 1305) dL_law_1305 ?_
    refine xw_sald hf hX dL_law_1306 h.1 ?_
    have h := h.2
    refine xw_i2l hf (pc := 1307) dL_law_1307 ?_
    refine xw_bipush hf (pc := 1308) dL_law_1308 (v := 32) (by decide) ?_
    refine xw_lshl hf (pc := 1310) dL_law_1310 ?_
    refine xw_aload_n hf (pc := 1311) dL_law_1311 rfl 1 rfl ?_
    refine xw_iload hf (pc := 1312) dL_law_1312 5 rfl ?_
    refine xw_iconst hf (pc := 1314) dL_law_1314 (v := 2) (by decide) ?_
    refine xw_iadd hf (pc := 1315) dL_law_1315 ?_
    refine xw_sald hf hX dL_law_1316 h.1 ?_
    have h := h.2
    refine xw_i2l hf (pc := 1317) dL_law_1317 ?_
    refine xw_ldc2 hf (pc := 1318) dL_law_1318 mw_L_law_0 ?_
    refine xw_land hf (pc := 1321) dL_law_1321 ?_
    refine xw_lor hf (pc := 1322) dL_law_1322 ?_
    refine xw_callV hf (pc := 1323) (nA := 1) (Xr := [(a0, .inr (8, [.ref a1, .ref a8, .ref a13, .ref a18, .ref a25])), (a1, .inr (2, [.ref a2, .ref a4, .ref a6])), (a2, .inr (7, [.ref a3, .int v0])), (a3, .inl (gJ (xg x), 60, .inr (.inl v1))), (a4, .inr (7, [.ref a5, .int v2])), (a5, .inl (gJ (xg x), 60, .inr (.inl v3))), (a6, .inr (3, [.ref a7])), (a7, .inl (gI (xg x), 32, .inl v4)), (a8, .inr (6, [.ref a9, .ref a11, .ref a12])), (a9, .inr (3, [.ref a10])), (a10, .inl (gI (xg x), 32, .inl v5)), (a11, .inl (gI (xg x), 32, .inl v6)), (a12, .inl (gI (xg x), 32, .inl v7)), (a13, .inr (1, [.ref a39, .ref a14, .ref a16, .int v8])), (a14, .inr (3, [.ref a15])), (a15, .inl (gI (xg x), 32, .inl v9)), (a16, .inr (3, [.ref a17])), (a17, .inl (gI (xg x), 32, .inl v10)), (a18, .inr (4, [.ref a19, .ref a21, .ref a23, .int v11, .int v12])), (a19, .inr (3, [.ref a20])), (a20, .inl (gI (xg x), 32, .inl v13)), (a21, .inr (7, [.ref a22, .int v14])), (a22, .inl (gJ (xg x), 60, .inr (.inl v15))), (a23, .inr (7, [.ref a24, .int v16])), (a24, .inl (gJ (xg x), 60, .inr (.inl v17))), (a25, .inr (3, [.ref a26])), (a26, .inl (gI (xg x), 32, .inl v18)), (a28, .inl (gJ (xg x), 60, .inr (.inl v25))), (a29, .inl (gI (xg x), 27, .inl v26)), (a30, .inl (gI (xg x), 27, .inl v27)), (a31, .inl (gI (xg x), 27, .inl v28)), (a32, .inl (gI (xg x), 27, .inl v29)), (v30, .inl (gJ (xg x), v31, .inr (.inl v32))), (v33, .inl (gI (xg x), v34, .inl v35)), (v36, .inl (gZ (xg x), v37, .inl v38)), (a33, .inl (gI (xg x), 12, .inl v39)), (a34, .inl (gI (xg x), 27, .inl v40)), (a35, .inl (gI (xg x), 27, .inl v41)), (a36, .inl (gI (xg x), 60, .inl v42)), (a37, .inl (gI (xg x), 3, .inl v43)), (a38, .inl (gJ (xg x), 1, .inr (.inl w291)))] ++ ZP (xg x) a39 v45) (rest := []) (T := TX9) (c_X9_weightOf (xl x) (xg x) a27 a28 a29 a30 a31 a32 v30 v33 v36 a33 a34 a35 a36 a37 v19 v20 v21 v22 v23 v24 ((((v47 (z4 + 1).toNatClampNeg).toInt64) <<< ((32 : Int32).toInt64 &&& 63)) ||| (((v47 (z4 + 2).toNatClampNeg).toInt64) &&& 4294967295)) h) gL_law_X9_weightOf (by rfl) rfl rfl (by decide +kernel) ⟨⟨(Nat.le_of_ble_eq_true rfl), (Nat.le_of_ble_eq_true rfl)⟩, (Nat.le_trans (Nat.le_add_right _ _) hk.1), (Nat.le_trans (Nat.le_add_right _ _) hk.2)⟩ (Nat.le_of_ble_eq_true rfl) rfl rfl (sb_zr (sb_of [27, 0, 1, 2, 3, 4, 5, 6, 7, 8, 9, 10, 11, 12, 13, 14, 15, 16, 17, 18, 19, 20, 21, 22, 23, 24, 25, 26, 28, 29, 30, 31, 32, 33, 34, 35, 36, 37, 38, 39, 40, 41] rfl rfl)) rfl dL_law_1323 (fun v X1 hp => ?_)
    obtain ⟨r294, w295, rfl, rfl, h⟩ := hp
    refine xw_X (sb_rz (sb_of [1, 2, 3, 4, 5, 6, 7, 8, 9, 10, 11, 12, 13, 14, 15, 16, 17, 18, 19, 20, 21, 22, 23, 24, 25, 26, 27, 0, 28, 29, 30, 31, 32, 33, 34, 35, 36, 37, 38, 39, 40, 41] rfl rfl)) (show ww x (W_L_law (xg x) a0 a1 a2 a3 a4 a5 a6 a7 a8 a9 a10 a11 a12 a13 a14 a15 a16 a17 a18 a19 a20 a21 a22 a23 a24 a25 a26 a27 a28 a29 a30 a31 a32 a33 a34 a35 a36 a37 a38 a39 ab v0 v1 v2 v3 v4 v5 v6 v7 v8 v9 v10 v11 v12 v13 v14 v15 v16 v17 v18 w295 v20 v21 v22 v23 v24 v25 v26 v27 v28 v29 v30 v31 v32 v33 v34 v35 v36 v37 v38 v39 v40 v41 v42 v43 w291 v46 v47 ++ ZP (xg x) a39 v45) [(5, .int r290), (0, .ref ab), (1, .ref a0), (2, .ref a27), (3, .ref a38), (4, .int z4)] (k0 + 1) (n0 + 6) 1326 [.int r294] from ?_)
    refine xw_istore hf (pc := 1326) dL_law_1326 [(6, .int r294), (5, .int r290), (0, .ref ab), (1, .ref a0), (2, .ref a27), (3, .ref a38), (4, .int z4)] hn (by decide) rfl ?_
    refine xw_aload_n hf (pc := 1328) dL_law_1328 rfl 4 rfl ?_
    refine xw_callV hf (pc := 1329) (nA := 0) (Xr := [(a0, .inr (8, [.ref a1, .ref a8, .ref a13, .ref a18, .ref a25])), (a1, .inr (2, [.ref a2, .ref a4, .ref a6])), (a2, .inr (7, [.ref a3, .int v0])), (a3, .inl (gJ (xg x), 60, .inr (.inl v1))), (a4, .inr (7, [.ref a5, .int v2])), (a5, .inl (gJ (xg x), 60, .inr (.inl v3))), (a6, .inr (3, [.ref a7])), (a7, .inl (gI (xg x), 32, .inl v4)), (a8, .inr (6, [.ref a9, .ref a11, .ref a12])), (a9, .inr (3, [.ref a10])), (a10, .inl (gI (xg x), 32, .inl v5)), (a11, .inl (gI (xg x), 32, .inl v6)), (a12, .inl (gI (xg x), 32, .inl v7)), (a13, .inr (1, [.ref a39, .ref a14, .ref a16, .int v8])), (a14, .inr (3, [.ref a15])), (a15, .inl (gI (xg x), 32, .inl v9)), (a16, .inr (3, [.ref a17])), (a17, .inl (gI (xg x), 32, .inl v10)), (a18, .inr (4, [.ref a19, .ref a21, .ref a23, .int v11, .int v12])), (a19, .inr (3, [.ref a20])), (a20, .inl (gI (xg x), 32, .inl v13)), (a21, .inr (7, [.ref a22, .int v14])), (a22, .inl (gJ (xg x), 60, .inr (.inl v15))), (a23, .inr (7, [.ref a24, .int v16])), (a24, .inl (gJ (xg x), 60, .inr (.inl v17))), (a25, .inr (3, [.ref a26])), (a26, .inl (gI (xg x), 32, .inl v18)), (a28, .inl (gJ (xg x), 60, .inr (.inl v25))), (a29, .inl (gI (xg x), 27, .inl v26)), (a30, .inl (gI (xg x), 27, .inl v27)), (a31, .inl (gI (xg x), 27, .inl v28)), (a32, .inl (gI (xg x), 27, .inl v29)), (v30, .inl (gJ (xg x), v31, .inr (.inl v32))), (v33, .inl (gI (xg x), v34, .inl v35)), (v36, .inl (gZ (xg x), v37, .inl v38)), (a33, .inl (gI (xg x), 12, .inl v39)), (a34, .inl (gI (xg x), 27, .inl v40)), (a35, .inl (gI (xg x), 27, .inl v41)), (a36, .inl (gI (xg x), 60, .inl v42)), (a37, .inl (gI (xg x), 3, .inl v43)), (a38, .inl (gJ (xg x), 1, .inr (.inl w291)))] ++ ZP (xg x) a39 v45) (rest := []) (T := TX9) (c_X9_thrown (xl x) (xg x) a27 a28 a29 a30 a31 a32 v30 v33 v36 a33 a34 a35 a36 a37 w295 v20 v21 v22 v23 v24 h) gL_law_X9_thrown (by rfl) rfl rfl (by decide +kernel) ⟨⟨(Nat.le_of_ble_eq_true rfl), (Nat.le_of_ble_eq_true rfl)⟩, (Nat.le_trans (Nat.le_add_right _ _) hk.1), (Nat.le_trans (Nat.le_add_right _ _) hk.2)⟩ (Nat.le_of_ble_eq_true rfl) rfl rfl (sb_zr (sb_of [27, 0, 1, 2, 3, 4, 5, 6, 7, 8, 9, 10, 11, 12, 13, 14, 15, 16, 17, 18, 19, 20, 21, 22, 23, 24, 25, 26, 28, 29, 30, 31, 32, 33, 34, 35, 36, 37, 38, 39, 40, 41] rfl rfl)) rfl dL_law_1329 (fun v X1 hp => ?_)
    obtain ⟨r296, rfl, rfl, h⟩ := hp
    refine xw_X (sb_rz (sb_of [1, 2, 3, 4, 5, 6, 7, 8, 9, 10, 11, 12, 13, 14, 15, 16, 17, 18, 19, 20, 21, 22, 23, 24, 25, 26, 27, 0, 28, 29, 30, 31, 32, 33, 34, 35, 36, 37, 38, 39, 40, 41] rfl rfl)) (show ww x (W_L_law (xg x) a0 a1 a2 a3 a4 a5 a6 a7 a8 a9 a10 a11 a12 a13 a14 a15 a16 a17 a18 a19 a20 a21 a22 a23 a24 a25 a26 a27 a28 a29 a30 a31 a32 a33 a34 a35 a36 a37 a38 a39 ab v0 v1 v2 v3 v4 v5 v6 v7 v8 v9 v10 v11 v12 v13 v14 v15 v16 v17 v18 w295 v20 v21 v22 v23 v24 v25 v26 v27 v28 v29 v30 v31 v32 v33 v34 v35 v36 v37 v38 v39 v40 v41 v42 v43 w291 v46 v47 ++ ZP (xg x) a39 v45) [(6, .int r294), (5, .int r290), (0, .ref ab), (1, .ref a0), (2, .ref a27), (3, .ref a38), (4, .int z4)] (k0 + 1) (n0 + 6) 1332 [.int r296] from ?_)
    refine xw_iload hf (pc := 1332) dL_law_1332 1 rfl ?_
    refine xw_icmp_eq hf (pc := 1334) dL_law_1334 (tgt := 1339) rfl ⟨fun c => ?_, fun c => ?_⟩
    · have h := h.1 c
      refine xw_iload hf (pc := 1339) dL_law_1339 1 rfl ?_
      refine xw_if_ne hf (pc := 1341) dL_law_1341 (c := r290 = 0) Iff.rfl (tgt := 1356) rfl ⟨fun c => ?_, fun c => ?_⟩
      · have h := h.1 c
        refine xw_aload_n hf (pc := 1344) dL_law_1344 rfl 5 rfl ?_
        refine xw_iconst hf (pc := 1345) dL_law_1345 (v := 0) (by decide) ?_
        refine xw_lald hf (pc := 1346) dL_law_1346 41 rfl h.1 ?_
        have h := h.2
        refine xw_iload hf (pc := 1347) dL_law_1347 0 rfl ?_
        refine xw_i2l hf (pc := 1349) dL_law_1349 ?_
        refine xw_lcmp hf (pc := 1350) dL_law_1350 ?_
        refine xw_if_eq hf (pc := 1351) dL_law_1351 (c := (w291 (0 : Int32).toNatClampNeg) = r294.toInt64) (lc_eq _ _) (tgt := 1356) rfl ⟨fun c => ?_, fun c => ?_⟩
        · have h := h.1 c
          refine xw_goto hf (pc := 1356) dL_law_1356 (tgt := 2681) rfl ?_
          refine xw_L [2, 3, 4, 5, 6] rfl ?_
          exact hK2681 _ _ _ _ hk _ _ h
        · have h := h.2 c
          refine xw_iconst hf (pc := 1354) dL_law_1354 (v := 0) (by decide) ?_
          exact h.elim
      · have h := h.2 c
        refine xw_goto hf (pc := 1356) dL_law_1356 (tgt := 2681) rfl ?_
        refine xw_L [2, 3, 4, 5, 6] rfl ?_
        exact hK2681 _ _ _ _ hk _ _ h
    · have h := h.2 c
      refine xw_iconst hf (pc := 1337) dL_law_1337 (v := 0) (by decide) ?_
      exact h.elim
set_option maxHeartbeats 4000000 in
set_option maxRecDepth 100000 in
theorem w_L_law_L1359 {x : Cx} {mc ms : Nat} (hf : fx x (rm_L_law) RL cL_law wsL_law) (hn : xn x = 8) {k0 n0 rc rs : Nat} (hk : k0 + rc ≤ (rm_L_law).cells ∧ n0 + rs ≤ (rm_L_law).slots) (a0 a1 a2 a3 a4 a5 a6 a7 a8 a9 a10 a11 a12 a13 a14 a15 a16 a17 a18 a19 a20 a21 a22 a23 a24 a25 a26 a27 a28 a29 a30 a31 a32 a33 a34 a35 a36 a37 a38 a39 ab : Nat) (z4 : Int32) (v6 : Nat → Int32) (v7 : Nat → Int32) (v20 : Int32) (v21 : Int32) (v22 : Int32) (v24 : Int32) (v26 : Nat → Int32) (v27 : Nat → Int32) (v46 : Nat) (v47 : Nat → Int32) (v0 : Int32) (v1 : Nat → Int64) (v2 : Int32) (v3 : Nat → Int64) (v4 : Nat → Int32) (v8 : Int32) (v9 : Nat → Int32) (v10 : Nat → Int32) (v11 : Int32) (v12 : Int32) (v13 : Nat → Int32) (v14 : Int32) (v15 : Nat → Int64) (v16 : Int32) (v17 : Nat → Int64) (v18 : Nat → Int32) (v25 : Nat → Int64) (v28 : Nat → Int32) (v29 : Nat → Int32) (v30 : Nat) (v31 : Nat) (v32 : Nat → Int64) (v33 : Nat) (v34 : Nat) (v35 : Nat → Int32) (v36 : Nat) (v37 : Nat) (v38 : Nat → Int32) (v42 : Nat → Int32) (v43 : Nat → Int32) (v45 : ZL) {K2681 : Nat → Nat → (Nat → Int32) → Int32 → Int32 → (Nat → Int32) → (Nat → Int32) → (Nat → Int32) → (Nat → Int64) → Prop} (hst : (xl x).stackTraces = false) (hX : sX x ab v46 v47)
    (n : Nat) (v5 : Nat → Int32) (v19 : Int32) (v23 : Int32) (v39 : Nat → Int32) (v40 : Nat → Int32) (v41 : Nat → Int32) (v44 : Nat → Int64) (h : P_L_law_L1359 z4 v6 v7 v20 v21 v22 v24 v26 v27 v46 v47 K2681 n rc rs v5 v19 v23 v39 v40 v41 v44)
    (hK2681 : ∀ (k0 n0 rc rs : Nat), k0 + rc ≤ (rm_L_law).cells ∧ n0 + rs ≤ (rm_L_law).slots → ∀ (uv5 : Nat → Int32), ∀ (uv19 : Int32), ∀ (uv23 : Int32), ∀ (uv39 : Nat → Int32), ∀ (uv40 : Nat → Int32), ∀ (uv41 : Nat → Int32), ∀ (uv44 : Nat → Int64), K2681 rc rs uv5 uv19 uv23 uv39 uv40 uv41 uv44 → ww x (W_L_law (xg x) a0 a1 a2 a3 a4 a5 a6 a7 a8 a9 a10 a11 a12 a13 a14 a15 a16 a17 a18 a19 a20 a21 a22 a23 a24 a25 a26 a27 a28 a29 a30 a31 a32 a33 a34 a35 a36 a37 a38 a39 ab v0 v1 v2 v3 v4 uv5 v6 v7 v8 v9 v10 v11 v12 v13 v14 v15 v16 v17 v18 uv19 v20 v21 v22 uv23 v24 v25 v26 v27 v28 v29 v30 v31 v32 v33 v34 v35 v36 v37 v38 uv39 uv40 uv41 v42 v43 uv44 v46 v47 ++ ZP (xg x) a39 v45) [(0, .ref ab), (1, .ref a0), (2, .ref a27), (3, .ref a38), (4, .int z4)] k0 n0 2681 []) :
    ww x (W_L_law (xg x) a0 a1 a2 a3 a4 a5 a6 a7 a8 a9 a10 a11 a12 a13 a14 a15 a16 a17 a18 a19 a20 a21 a22 a23 a24 a25 a26 a27 a28 a29 a30 a31 a32 a33 a34 a35 a36 a37 a38 a39 ab v0 v1 v2 v3 v4 v5 v6 v7 v8 v9 v10 v11 v12 v13 v14 v15 v16 v17 v18 v19 v20 v21 v22 v23 v24 v25 v26 v27 v28 v29 v30 v31 v32 v33 v34 v35 v36 v37 v38 v39 v40 v41 v42 v43 v44 v46 v47 ++ ZP (xg x) a39 v45) [(0, .ref ab), (1, .ref a0), (2, .ref a27), (3, .ref a38), (4, .int z4)] k0 n0 1359 [] := by
  induction n generalizing k0 n0 rc rs v5 v19 v23 v39 v40 v41 v44 with
  | zero => exact h.elim
  | succ n ih =>
    unfold P_L_law_L1359 at h
    refine xw_aload_n hf (pc := 1359) dL_law_1359 rfl 1 rfl ?_
    refine xw_aload_n hf (pc := 1360) dL_law_1360 rfl 0 rfl ?_
    refine xw_iload hf (pc := 1361) dL_law_1361 4 rfl ?_
    refine xw_iconst hf (pc := 1363) dL_law_1363 (v := 1) (by decide) ?_
    refine xw_iadd hf (pc := 1364) dL_law_1364 ?_
    refine xw_sald hf hX dL_law_1365 h.1 ?_
    have h := h.2
    refine xw_i2l hf (pc := 1366) dL_law_1366 ?_
    refine xw_bipush hf (pc := 1367) dL_law_1367 (v := 32) (by decide) ?_
    refine xw_lshl hf (pc := 1369) dL_law_1369 ?_
    refine xw_aload_n hf (pc := 1370) dL_law_1370 rfl 0 rfl ?_
    refine xw_iload hf (pc := 1371) dL_law_1371 4 rfl ?_
    refine xw_iconst hf (pc := 1373) dL_law_1373 (v := 2) (by decide) ?_
    refine xw_iadd hf (pc := 1374) dL_law_1374 ?_
    refine xw_sald hf hX dL_law_1375 h.1 ?_
    have h := h.2
    refine xw_i2l hf (pc := 1376) dL_law_1376 ?_
    refine xw_ldc2 hf (pc := 1377) dL_law_1377 mw_L_law_0 ?_
    refine xw_land hf (pc := 1380) dL_law_1380 ?_
    refine xw_lor hf (pc := 1381) dL_law_1381 ?_
    refine xw_aload_n hf (pc := 1382) dL_law_1382 rfl 3 rfl ?_
    obtain ⟨mc306, ms307, ⟨hb1, hb2⟩, h⟩ := h
    refine xw_callSW hf (pc := 1383) (nA := 3) (Xr := [(a1, .inr (2, [.ref a2, .ref a4, .ref a6])), (a2, .inr (7, [.ref a3, .int v0])), (a3, .inl (gJ (xg x), 60, .inr (.inl v1))), (a4, .inr (7, [.ref a5, .int v2])), (a5, .inl (gJ (xg x), 60, .inr (.inl v3))), (a6, .inr (3, [.ref a7])), (a7, .inl (gI (xg x), 32, .inl v4)), (a13, .inr (1, [.ref a39, .ref a14, .ref a16, .int v8])), (a14, .inr (3, [.ref a15])), (a15, .inl (gI (xg x), 32, .inl v9)), (a16, .inr (3, [.ref a17])), (a17, .inl (gI (xg x), 32, .inl v10)), (a18, .inr (4, [.ref a19, .ref a21, .ref a23, .int v11, .int v12])), (a19, .inr (3, [.ref a20])), (a20, .inl (gI (xg x), 32, .inl v13)), (a21, .inr (7, [.ref a22, .int v14])), (a22, .inl (gJ (xg x), 60, .inr (.inl v15))), (a23, .inr (7, [.ref a24, .int v16])), (a24, .inl (gJ (xg x), 60, .inr (.inl v17))), (a25, .inr (3, [.ref a26])), (a26, .inl (gI (xg x), 32, .inl v18)), (a27, .inr (9, [.int v19, .ref a28, .int v20, .ref a29, .ref a30, .ref a31, .ref a32, .ref v30, .ref v33, .ref v36, .int v21, .int v22, .ref a33, .int v23, .ref a34, .ref a35, .ref a36, .ref a37, .int v24])), (a28, .inl (gJ (xg x), 60, .inr (.inl v25))), (a29, .inl (gI (xg x), 27, .inl v26)), (a30, .inl (gI (xg x), 27, .inl v27)), (a31, .inl (gI (xg x), 27, .inl v28)), (a32, .inl (gI (xg x), 27, .inl v29)), (v30, .inl (gJ (xg x), v31, .inr (.inl v32))), (v33, .inl (gI (xg x), v34, .inl v35)), (v36, .inl (gZ (xg x), v37, .inl v38)), (a33, .inl (gI (xg x), 12, .inl v39)), (a34, .inl (gI (xg x), 27, .inl v40)), (a35, .inl (gI (xg x), 27, .inl v41)), (a36, .inl (gI (xg x), 60, .inl v42)), (a37, .inl (gI (xg x), 3, .inl v43))] ++ ZP (xg x) a39 v45) (rest := []) (c_L_costOf (xl x) (xg x) hst a0 a8 a9 a10 a11 a12 a38 a1 a13 a18 a25 v5 v6 v7 v44 ((((v47 (z4 + 1).toNatClampNeg).toInt64) <<< ((32 : Int32).toInt64 &&& 63)) ||| (((v47 (z4 + 2).toNatClampNeg).toInt64) &&& 4294967295)) h) gL_law_L_costOf (by rfl) rfl (by decide +kernel) ⟨⟨(Nat.le_of_ble_eq_true rfl), (Nat.le_of_ble_eq_true rfl)⟩, (Nat.le_trans (show k0 + 2 ≤ k0 + rc by omega) hk.1), (Nat.le_trans (show n0 + 12 ≤ n0 + rs by omega) hk.2)⟩ (Nat.le_of_ble_eq_true rfl) (sb_zr (sb_of [0, 8, 9, 10, 11, 12, 41, 1, 2, 3, 4, 5, 6, 7, 13, 14, 15, 16, 17, 18, 19, 20, 21, 22, 23, 24, 25, 26, 27, 28, 29, 30, 31, 32, 33, 34, 35, 36, 37, 38, 39, 40] rfl rfl)) rfl dL_law_1383 (fun v X1 hp => ?_)
    obtain ⟨r303, w304, w305, rfl, rfl, h⟩ := hp
    have hk : k0 + 2 + mc306 ≤ (rm_L_law).cells ∧ n0 + 12 + ms307 ≤ (rm_L_law).slots := ⟨Nat.le_trans (show k0 + 2 + mc306 ≤ k0 + rc by omega) hk.1, Nat.le_trans (show n0 + 12 + ms307 ≤ n0 + rs by omega) hk.2⟩
    refine xw_X (sb_rz (sb_of [0, 7, 8, 9, 10, 11, 12, 13, 1, 2, 3, 4, 5, 14, 15, 16, 17, 18, 19, 20, 21, 22, 23, 24, 25, 26, 27, 28, 29, 30, 31, 32, 33, 34, 35, 36, 37, 38, 39, 40, 41, 6] rfl rfl)) (show ww x (W_L_law (xg x) a0 a1 a2 a3 a4 a5 a6 a7 a8 a9 a10 a11 a12 a13 a14 a15 a16 a17 a18 a19 a20 a21 a22 a23 a24 a25 a26 a27 a28 a29 a30 a31 a32 a33 a34 a35 a36 a37 a38 a39 ab v0 v1 v2 v3 v4 w304 v6 v7 v8 v9 v10 v11 v12 v13 v14 v15 v16 v17 v18 v19 v20 v21 v22 v23 v24 v25 v26 v27 v28 v29 v30 v31 v32 v33 v34 v35 v36 v37 v38 v39 v40 v41 v42 v43 w305 v46 v47 ++ ZP (xg x) a39 v45) [(0, .ref ab), (1, .ref a0), (2, .ref a27), (3, .ref a38), (4, .int z4)] (k0 + 2) (n0 + 12) 1386 [.int r303] from ?_)
    refine xw_istore hf (pc := 1386) dL_law_1386 [(5, .int r303), (0, .ref ab), (1, .ref a0), (2, .ref a27), (3, .ref a38), (4, .int z4)] hn (by decide) rfl ?_
    refine xw_aload_n hf (pc := 1388) dL_law_1388 rfl 3 rfl ?_
    refine xw_aload_n hf (pc := 1389) dL_law_1389 rfl 1 rfl ?_
    refine xw_iload hf (pc := 1390) dL_law_1390 5 rfl ?_
    refine xw_iconst hf (pc := 1392) dL_law_1392 (v := 1) (by decide) ?_
    refine xw_iadd hf (pc := 1393) dL_law_1393 ?_
    refine xw_sald hf hX dL_law_1394 h.1 ?_
    have h := h.2
    refine xw_i2l hf (pc := 1395) dL_law_1395 ?_
    refine xw_bipush hf (pc := 1396) dL_law_1396 (v := 32) (by decide) ?_
    refine xw_lshl hf (pc := 1398) dL_law_1398 ?_
    refine xw_aload_n hf (pc := 1399) dL_law_1399 rfl 1 rfl ?_
    refine xw_iload hf (pc := 1400) dL_law_1400 5 rfl ?_
    refine xw_iconst hf (pc := 1402) dL_law_1402 (v := 2) (by decide) ?_
    refine xw_iadd hf (pc := 1403) dL_law_1403 ?_
    refine xw_sald hf hX dL_law_1404 h.1 ?_
    have h := h.2
    refine xw_i2l hf (pc := 1405) dL_law_1405 ?_
    refine xw_ldc2 hf (pc := 1406) dL_law_1406 mw_L_law_0 ?_
    refine xw_land hf (pc := 1409) dL_law_1409 ?_
    refine xw_lor hf (pc := 1410) dL_law_1410 ?_
    refine xw_callV hf (pc := 1411) (nA := 1) (Xr := [(a0, .inr (8, [.ref a1, .ref a8, .ref a13, .ref a18, .ref a25])), (a1, .inr (2, [.ref a2, .ref a4, .ref a6])), (a2, .inr (7, [.ref a3, .int v0])), (a3, .inl (gJ (xg x), 60, .inr (.inl v1))), (a4, .inr (7, [.ref a5, .int v2])), (a5, .inl (gJ (xg x), 60, .inr (.inl v3))), (a6, .inr (3, [.ref a7])), (a7, .inl (gI (xg x), 32, .inl v4)), (a8, .inr (6, [.ref a9, .ref a11, .ref a12])), (a9, .inr (3, [.ref a10])), (a10, .inl (gI (xg x), 32, .inl w304)), (a11, .inl (gI (xg x), 32, .inl v6)), (a12, .inl (gI (xg x), 32, .inl v7)), (a13, .inr (1, [.ref a39, .ref a14, .ref a16, .int v8])), (a14, .inr (3, [.ref a15])), (a15, .inl (gI (xg x), 32, .inl v9)), (a16, .inr (3, [.ref a17])), (a17, .inl (gI (xg x), 32, .inl v10)), (a18, .inr (4, [.ref a19, .ref a21, .ref a23, .int v11, .int v12])), (a19, .inr (3, [.ref a20])), (a20, .inl (gI (xg x), 32, .inl v13)), (a21, .inr (7, [.ref a22, .int v14])), (a22, .inl (gJ (xg x), 60, .inr (.inl v15))), (a23, .inr (7, [.ref a24, .int v16])), (a24, .inl (gJ (xg x), 60, .inr (.inl v17))), (a25, .inr (3, [.ref a26])), (a26, .inl (gI (xg x), 32, .inl v18)), (a28, .inl (gJ (xg x), 60, .inr (.inl v25))), (a31, .inl (gI (xg x), 27, .inl v28)), (a32, .inl (gI (xg x), 27, .inl v29)), (v30, .inl (gJ (xg x), v31, .inr (.inl v32))), (v33, .inl (gI (xg x), v34, .inl v35)), (v36, .inl (gZ (xg x), v37, .inl v38)), (a36, .inl (gI (xg x), 60, .inl v42)), (a37, .inl (gI (xg x), 3, .inl v43)), (a38, .inl (gJ (xg x), 1, .inr (.inl w305)))] ++ ZP (xg x) a39 v45) (rest := []) (T := TX9) (c_X9_costOf (xl x) (xg x) a27 a29 a30 a33 a34 a35 a28 a31 a32 v30 v33 v36 a36 a37 v19 v20 v21 v22 v23 v24 v26 v27 v39 v40 v41 ((((v47 (z4 + 1).toNatClampNeg).toInt64) <<< ((32 : Int32).toInt64 &&& 63)) ||| (((v47 (z4 + 2).toNatClampNeg).toInt64) &&& 4294967295)) h) gL_law_X9_costOf (by rfl) rfl rfl (by decide +kernel) ⟨⟨(Nat.le_of_ble_eq_true rfl), (Nat.le_of_ble_eq_true rfl)⟩, (Nat.le_trans (Nat.le_add_right _ _) hk.1), (Nat.le_trans (Nat.le_add_right _ _) hk.2)⟩ (Nat.le_of_ble_eq_true rfl) rfl rfl (sb_zr (sb_of [27, 29, 30, 36, 37, 38, 0, 1, 2, 3, 4, 5, 6, 7, 8, 9, 10, 11, 12, 13, 14, 15, 16, 17, 18, 19, 20, 21, 22, 23, 24, 25, 26, 28, 31, 32, 33, 34, 35, 39, 40, 41] rfl rfl)) rfl dL_law_1411 (fun v X1 hp => ?_)
    obtain ⟨r308, w309, w310, w311, w312, w313, rfl, rfl, h⟩ := hp
    refine xw_X (sb_rz (sb_of [6, 7, 8, 9, 10, 11, 12, 13, 14, 15, 16, 17, 18, 19, 20, 21, 22, 23, 24, 25, 26, 27, 28, 29, 30, 31, 32, 0, 33, 1, 2, 34, 35, 36, 37, 38, 3, 4, 5, 39, 40, 41] rfl rfl)) (show ww x (W_L_law (xg x) a0 a1 a2 a3 a4 a5 a6 a7 a8 a9 a10 a11 a12 a13 a14 a15 a16 a17 a18 a19 a20 a21 a22 a23 a24 a25 a26 a27 a28 a29 a30 a31 a32 a33 a34 a35 a36 a37 a38 a39 ab v0 v1 v2 v3 v4 w304 v6 v7 v8 v9 v10 v11 v12 v13 v14 v15 v16 v17 v18 w309 v20 v21 v22 w310 v24 v25 v26 v27 v28 v29 v30 v31 v32 v33 v34 v35 v36 v37 v38 w311 w312 w313 v42 v43 w305 v46 v47 ++ ZP (xg x) a39 v45) [(5, .int r303), (0, .ref ab), (1, .ref a0), (2, .ref a27), (3, .ref a38), (4, .int z4)] (k0 + 2) (n0 + 12) 1414 [.int r308] from ?_)
    refine xw_istore hf (pc := 1414) dL_law_1414 [(6, .int r308), (5, .int r303), (0, .ref ab), (1, .ref a0), (2, .ref a27), (3, .ref a38), (4, .int z4)] hn (by decide) rfl ?_
    refine xw_aload_n hf (pc := 1416) dL_law_1416 rfl 4 rfl ?_
    refine xw_callV hf (pc := 1417) (nA := 0) (Xr := [(a0, .inr (8, [.ref a1, .ref a8, .ref a13, .ref a18, .ref a25])), (a1, .inr (2, [.ref a2, .ref a4, .ref a6])), (a2, .inr (7, [.ref a3, .int v0])), (a3, .inl (gJ (xg x), 60, .inr (.inl v1))), (a4, .inr (7, [.ref a5, .int v2])), (a5, .inl (gJ (xg x), 60, .inr (.inl v3))), (a6, .inr (3, [.ref a7])), (a7, .inl (gI (xg x), 32, .inl v4)), (a8, .inr (6, [.ref a9, .ref a11, .ref a12])), (a9, .inr (3, [.ref a10])), (a10, .inl (gI (xg x), 32, .inl w304)), (a11, .inl (gI (xg x), 32, .inl v6)), (a12, .inl (gI (xg x), 32, .inl v7)), (a13, .inr (1, [.ref a39, .ref a14, .ref a16, .int v8])), (a14, .inr (3, [.ref a15])), (a15, .inl (gI (xg x), 32, .inl v9)), (a16, .inr (3, [.ref a17])), (a17, .inl (gI (xg x), 32, .inl v10)), (a18, .inr (4, [.ref a19, .ref a21, .ref a23, .int v11, .int v12])), (a19, .inr (3, [.ref a20])), (a20, .inl (gI (xg x), 32, .inl v13)), (a21, .inr (7, [.ref a22, .int v14])), (a22, .inl (gJ (xg x), 60, .inr (.inl v15))), (a23, .inr (7, [.ref a24, .int v16])), (a24, .inl (gJ (xg x), 60, .inr (.inl v17))), (a25, .inr (3, [.ref a26])), (a26, .inl (gI (xg x), 32, .inl v18)), (a28, .inl (gJ (xg x), 60, .inr (.inl v25))), (a29, .inl (gI (xg x), 27, .inl v26)), (a30, .inl (gI (xg x), 27, .inl v27)), (a31, .inl (gI (xg x), 27, .inl v28)), (a32, .inl (gI (xg x), 27, .inl v29)), (v30, .inl (gJ (xg x), v31, .inr (.inl v32))), (v33, .inl (gI (xg x), v34, .inl v35)), (v36, .inl (gZ (xg x), v37, .inl v38)), (a33, .inl (gI (xg x), 12, .inl w311)), (a34, .inl (gI (xg x), 27, .inl w312)), (a35, .inl (gI (xg x), 27, .inl w313)), (a36, .inl (gI (xg x), 60, .inl v42)), (a37, .inl (gI (xg x), 3, .inl v43)), (a38, .inl (gJ (xg x), 1, .inr (.inl w305)))] ++ ZP (xg x) a39 v45) (rest := []) (T := TX9) (c_X9_thrown (xl x) (xg x) a27 a28 a29 a30 a31 a32 v30 v33 v36 a33 a34 a35 a36 a37 w309 v20 v21 v22 w310 v24 h) gL_law_X9_thrown (by rfl) rfl rfl (by decide +kernel) ⟨⟨(Nat.le_of_ble_eq_true rfl), (Nat.le_of_ble_eq_true rfl)⟩, (Nat.le_trans (Nat.le_add_right _ _) hk.1), (Nat.le_trans (Nat.le_add_right _ _) hk.2)⟩ (Nat.le_of_ble_eq_true rfl) rfl rfl (sb_zr (sb_of [27, 0, 1, 2, 3, 4, 5, 6, 7, 8, 9, 10, 11, 12, 13, 14, 15, 16, 17, 18, 19, 20, 21, 22, 23, 24, 25, 26, 28, 29, 30, 31, 32, 33, 34, 35, 36, 37, 38, 39, 40, 41] rfl rfl)) rfl dL_law_1417 (fun v X1 hp => ?_)
    obtain ⟨r314, rfl, rfl, h⟩ := hp
    refine xw_X (sb_rz (sb_of [1, 2, 3, 4, 5, 6, 7, 8, 9, 10, 11, 12, 13, 14, 15, 16, 17, 18, 19, 20, 21, 22, 23, 24, 25, 26, 27, 0, 28, 29, 30, 31, 32, 33, 34, 35, 36, 37, 38, 39, 40, 41] rfl rfl)) (show ww x (W_L_law (xg x) a0 a1 a2 a3 a4 a5 a6 a7 a8 a9 a10 a11 a12 a13 a14 a15 a16 a17 a18 a19 a20 a21 a22 a23 a24 a25 a26 a27 a28 a29 a30 a31 a32 a33 a34 a35 a36 a37 a38 a39 ab v0 v1 v2 v3 v4 w304 v6 v7 v8 v9 v10 v11 v12 v13 v14 v15 v16 v17 v18 w309 v20 v21 v22 w310 v24 v25 v26 v27 v28 v29 v30 v31 v32 v33 v34 v35 v36 v37 v38 w311 w312 w313 v42 v43 w305 v46 v47 ++ ZP (xg x) a39 v45) [(6, .int r308), (5, .int r303), (0, .ref ab), (1, .ref a0), (2, .ref a27), (3, .ref a38), (4, .int z4)] (k0 + 2) (n0 + 12) 1420 [.int r314] from ?_)
    refine xw_iload hf (pc := 1420) dL_law_1420 1 rfl ?_
    refine xw_icmp_eq hf (pc := 1422) dL_law_1422 (tgt := 1427) rfl ⟨fun c => ?_, fun c => ?_⟩
    · have h := h.1 c
      refine xw_iload hf (pc := 1427) dL_law_1427 1 rfl ?_
      refine xw_if_ne hf (pc := 1429) dL_law_1429 (c := r303 = 0) Iff.rfl (tgt := 1444) rfl ⟨fun c => ?_, fun c => ?_⟩
      · have h := h.1 c
        refine xw_aload_n hf (pc := 1432) dL_law_1432 rfl 5 rfl ?_
        refine xw_iconst hf (pc := 1433) dL_law_1433 (v := 0) (by decide) ?_
        refine xw_lald hf (pc := 1434) dL_law_1434 41 rfl h.1 ?_
        have h := h.2
        refine xw_iload hf (pc := 1435) dL_law_1435 0 rfl ?_
        refine xw_i2l hf (pc := 1437) dL_law_1437 ?_
        refine xw_lcmp hf (pc := 1438) dL_law_1438 ?_
        refine xw_if_eq hf (pc := 1439) dL_law_1439 (c := (w305 (0 : Int32).toNatClampNeg) = r308.toInt64) (lc_eq _ _) (tgt := 1444) rfl ⟨fun c => ?_, fun c => ?_⟩
        · have h := h.1 c
          refine xw_goto hf (pc := 1444) dL_law_1444 (tgt := 2681) rfl ?_
          refine xw_L [2, 3, 4, 5, 6] rfl ?_
          exact hK2681 _ _ _ _ hk _ _ _ _ _ _ _ h
        · have h := h.2 c
          refine xw_iconst hf (pc := 1442) dL_law_1442 (v := 0) (by decide) ?_
          exact h.elim
      · have h := h.2 c
        refine xw_goto hf (pc := 1444) dL_law_1444 (tgt := 2681) rfl ?_
        refine xw_L [2, 3, 4, 5, 6] rfl ?_
        exact hK2681 _ _ _ _ hk _ _ _ _ _ _ _ h
    · have h := h.2 c
      refine xw_iconst hf (pc := 1425) dL_law_1425 (v := 0) (by decide) ?_
      exact h.elim
set_option maxHeartbeats 4000000 in
set_option maxRecDepth 100000 in
theorem w_L_law_L1447 {x : Cx} {mc ms : Nat} (hf : fx x (rm_L_law) RL cL_law wsL_law) (hn : xn x = 8) {k0 n0 rc rs : Nat} (hk : k0 + rc ≤ (rm_L_law).cells ∧ n0 + rs ≤ (rm_L_law).slots) (a0 a1 a2 a3 a4 a5 a6 a7 a8 a9 a10 a11 a12 a13 a14 a15 a16 a17 a18 a19 a20 a21 a22 a23 a24 a25 a26 a27 a28 a29 a30 a31 a32 a33 a34 a35 a36 a37 a38 a39 ab : Nat) (z4 : Int32) (v5 : Nat → Int32) (v20 : Int32) (v21 : Int32) (v22 : Int32) (v24 : Int32) (v26 : Nat → Int32) (v46 : Nat) (v47 : Nat → Int32) (v0 : Int32) (v1 : Nat → Int64) (v2 : Int32) (v3 : Nat → Int64) (v4 : Nat → Int32) (v6 : Nat → Int32) (v7 : Nat → Int32) (v8 : Int32) (v9 : Nat → Int32) (v10 : Nat → Int32) (v11 : Int32) (v12 : Int32) (v13 : Nat → Int32) (v14 : Int32) (v15 : Nat → Int64) (v16 : Int32) (v17 : Nat → Int64) (v18 : Nat → Int32) (v25 : Nat → Int64) (v27 : Nat → Int32) (v28 : Nat → Int32) (v29 : Nat → Int32) (v30 : Nat) (v31 : Nat) (v32 : Nat → Int64) (v33 : Nat) (v34 : Nat) (v35 : Nat → Int32) (v36 : Nat) (v37 : Nat) (v38 : Nat → Int32) (v41 : Nat → Int32) (v42 : Nat → Int32) (v43 : Nat → Int32) (v45 : ZL) {K2681 : Nat → Nat → Int32 → Int32 → (Nat → Int32) → (Nat → Int32) → (Nat → Int64) → Prop} (hst : (xl x).stackTraces = false) (hX : sX x ab v46 v47)
    (n : Nat) (v19 : Int32) (v23 : Int32) (v39 : Nat → Int32) (v40 : Nat → Int32) (v44 : Nat → Int64) (h : P_L_law_L1447 z4 v5 v20 v21 v22 v24 v26 v46 v47 K2681 n rc rs v19 v23 v39 v40 v44)
    (hK2681 : ∀ (k0 n0 rc rs : Nat), k0 + rc ≤ (rm_L_law).cells ∧ n0 + rs ≤ (rm_L_law).slots → ∀ (uv19 : Int32), ∀ (uv23 : Int32), ∀ (uv39 : Nat → Int32), ∀ (uv40 : Nat → Int32), ∀ (uv44 : Nat → Int64), K2681 rc rs uv19 uv23 uv39 uv40 uv44 → ww x (W_L_law (xg x) a0 a1 a2 a3 a4 a5 a6 a7 a8 a9 a10 a11 a12 a13 a14 a15 a16 a17 a18 a19 a20 a21 a22 a23 a24 a25 a26 a27 a28 a29 a30 a31 a32 a33 a34 a35 a36 a37 a38 a39 ab v0 v1 v2 v3 v4 v5 v6 v7 v8 v9 v10 v11 v12 v13 v14 v15 v16 v17 v18 uv19 v20 v21 v22 uv23 v24 v25 v26 v27 v28 v29 v30 v31 v32 v33 v34 v35 v36 v37 v38 uv39 uv40 v41 v42 v43 uv44 v46 v47 ++ ZP (xg x) a39 v45) [(0, .ref ab), (1, .ref a0), (2, .ref a27), (3, .ref a38), (4, .int z4)] k0 n0 2681 []) :
    ww x (W_L_law (xg x) a0 a1 a2 a3 a4 a5 a6 a7 a8 a9 a10 a11 a12 a13 a14 a15 a16 a17 a18 a19 a20 a21 a22 a23 a24 a25 a26 a27 a28 a29 a30 a31 a32 a33 a34 a35 a36 a37 a38 a39 ab v0 v1 v2 v3 v4 v5 v6 v7 v8 v9 v10 v11 v12 v13 v14 v15 v16 v17 v18 v19 v20 v21 v22 v23 v24 v25 v26 v27 v28 v29 v30 v31 v32 v33 v34 v35 v36 v37 v38 v39 v40 v41 v42 v43 v44 v46 v47 ++ ZP (xg x) a39 v45) [(0, .ref ab), (1, .ref a0), (2, .ref a27), (3, .ref a38), (4, .int z4)] k0 n0 1447 [] := by
  induction n generalizing k0 n0 rc rs v19 v23 v39 v40 v44 with
  | zero => exact h.elim
  | succ n ih =>
    unfold P_L_law_L1447 at h
    refine xw_aload_n hf (pc := 1447) dL_law_1447 rfl 1 rfl ?_
    refine xw_aload_n hf (pc := 1448) dL_law_1448 rfl 0 rfl ?_
    refine xw_iload hf (pc := 1449) dL_law_1449 4 rfl ?_
    refine xw_iconst hf (pc := 1451) dL_law_1451 (v := 1) (by decide) ?_
    refine xw_iadd hf (pc := 1452) dL_law_1452 ?_
    refine xw_sald hf hX dL_law_1453 h.1 ?_
    have h := h.2
    refine xw_i2l hf (pc := 1454) dL_law_1454 ?_
    refine xw_bipush hf (pc := 1455) dL_law_1455 (v := 32) (by decide) ?_
    refine xw_lshl hf (pc := 1457) dL_law_1457 ?_
    refine xw_aload_n hf (pc := 1458) dL_law_1458 rfl 0 rfl ?_
    refine xw_iload hf (pc := 1459) dL_law_1459 4 rfl ?_
    refine xw_iconst hf (pc := 1461) dL_law_1461 (v := 2) (by decide) ?_
    refine xw_iadd hf (pc := 1462) dL_law_1462 ?_
    refine xw_sald hf hX dL_law_1463 h.1 ?_
    have h := h.2
    refine xw_i2l hf (pc := 1464) dL_law_1464 ?_
    refine xw_ldc2 hf (pc := 1465) dL_law_1465 mw_L_law_0 ?_
    refine xw_land hf (pc := 1468) dL_law_1468 ?_
    refine xw_lor hf (pc := 1469) dL_law_1469 ?_
    refine xw_aload_n hf (pc := 1470) dL_law_1470 rfl 3 rfl ?_
    obtain ⟨mc328, ms329, ⟨hb1, hb2⟩, h⟩ := h
    refine xw_callSW hf (pc := 1471) (nA := 3) (Xr := [(a1, .inr (2, [.ref a2, .ref a4, .ref a6])), (a2, .inr (7, [.ref a3, .int v0])), (a3, .inl (gJ (xg x), 60, .inr (.inl v1))), (a4, .inr (7, [.ref a5, .int v2])), (a5, .inl (gJ (xg x), 60, .inr (.inl v3))), (a6, .inr (3, [.ref a7])), (a7, .inl (gI (xg x), 32, .inl v4)), (a11, .inl (gI (xg x), 32, .inl v6)), (a12, .inl (gI (xg x), 32, .inl v7)), (a13, .inr (1, [.ref a39, .ref a14, .ref a16, .int v8])), (a14, .inr (3, [.ref a15])), (a15, .inl (gI (xg x), 32, .inl v9)), (a16, .inr (3, [.ref a17])), (a17, .inl (gI (xg x), 32, .inl v10)), (a18, .inr (4, [.ref a19, .ref a21, .ref a23, .int v11, .int v12])), (a19, .inr (3, [.ref a20])), (a20, .inl (gI (xg x), 32, .inl v13)), (a21, .inr (7, [.ref a22, .int v14])), (a22, .inl (gJ (xg x), 60, .inr (.inl v15))), (a23, .inr (7, [.ref a24, .int v16])), (a24, .inl (gJ (xg x), 60, .inr (.inl v17))), (a25, .inr (3, [.ref a26])), (a26, .inl (gI (xg x), 32, .inl v18)), (a27, .inr (9, [.int v19, .ref a28, .int v20, .ref a29, .ref a30, .ref a31, .ref a32, .ref v30, .ref v33, .ref v36, .int v21, .int v22, .ref a33, .int v23, .ref a34, .ref a35, .ref a36, .ref a37, .int v24])), (a28, .inl (gJ (xg x), 60, .inr (.inl v25))), (a29, .inl (gI (xg x), 27, .inl v26)), (a30, .inl (gI (xg x), 27, .inl v27)), (a31, .inl (gI (xg x), 27, .inl v28)), (a32, .inl (gI (xg x), 27, .inl v29)), (v30, .inl (gJ (xg x), v31, .inr (.inl v32))), (v33, .inl (gI (xg x), v34, .inl v35)), (v36, .inl (gZ (xg x), v37, .inl v38)), (a33, .inl (gI (xg x), 12, .inl v39)), (a34, .inl (gI (xg x), 27, .inl v40)), (a35, .inl (gI (xg x), 27, .inl v41)), (a36, .inl (gI (xg x), 60, .inl v42)), (a37, .inl (gI (xg x), 3, .inl v43))] ++ ZP (xg x) a39 v45) (rest := []) (c_L_missingLetter (xl x) (xg x) hst a0 a8 a9 a10 a38 a1 a13 a18 a25 a11 a12 v5 v44 ((((v47 (z4 + 1).toNatClampNeg).toInt64) <<< ((32 : Int32).toInt64 &&& 63)) ||| (((v47 (z4 + 2).toNatClampNeg).toInt64) &&& 4294967295)) h) gL_law_L_missingLetter (by rfl) rfl (by decide +kernel) ⟨⟨(Nat.le_of_ble_eq_true rfl), (Nat.le_of_ble_eq_true rfl)⟩, (Nat.le_trans (show k0 + 1 ≤ k0 + rc by omega) hk.1), (Nat.le_trans (show n0 + 6 ≤ n0 + rs by omega) hk.2)⟩ (Nat.le_of_ble_eq_true rfl) (sb_zr (sb_of [0, 8, 9, 10, 41, 1, 2, 3, 4, 5, 6, 7, 11, 12, 13, 14, 15, 16, 17, 18, 19, 20, 21, 22, 23, 24, 25, 26, 27, 28, 29, 30, 31, 32, 33, 34, 35, 36, 37, 38, 39, 40] rfl rfl)) rfl dL_law_1471 (fun v X1 hp => ?_)
    obtain ⟨r326, w327, rfl, rfl, h⟩ := hp
    have hk : k0 + 1 + mc328 ≤ (rm_L_law).cells ∧ n0 + 6 + ms329 ≤ (rm_L_law).slots := ⟨Nat.le_trans (show k0 + 1 + mc328 ≤ k0 + rc by omega) hk.1, Nat.le_trans (show n0 + 6 + ms329 ≤ n0 + rs by omega) hk.2⟩
    refine xw_X (sb_rz (sb_of [0, 5, 6, 7, 8, 9, 10, 11, 1, 2, 3, 12, 13, 14, 15, 16, 17, 18, 19, 20, 21, 22, 23, 24, 25, 26, 27, 28, 29, 30, 31, 32, 33, 34, 35, 36, 37, 38, 39, 40, 41, 4] rfl rfl)) (show ww x (W_L_law (xg x) a0 a1 a2 a3 a4 a5 a6 a7 a8 a9 a10 a11 a12 a13 a14 a15 a16 a17 a18 a19 a20 a21 a22 a23 a24 a25 a26 a27 a28 a29 a30 a31 a32 a33 a34 a35 a36 a37 a38 a39 ab v0 v1 v2 v3 v4 v5 v6 v7 v8 v9 v10 v11 v12 v13 v14 v15 v16 v17 v18 v19 v20 v21 v22 v23 v24 v25 v26 v27 v28 v29 v30 v31 v32 v33 v34 v35 v36 v37 v38 v39 v40 v41 v42 v43 w327 v46 v47 ++ ZP (xg x) a39 v45) [(0, .ref ab), (1, .ref a0), (2, .ref a27), (3, .ref a38), (4, .int z4)] (k0 + 1) (n0 + 6) 1474 [.int r326] from ?_)
    refine xw_istore hf (pc := 1474) dL_law_1474 [(5, .int r326), (0, .ref ab), (1, .ref a0), (2, .ref a27), (3, .ref a38), (4, .int z4)] hn (by decide) rfl ?_
    refine xw_aload_n hf (pc := 1476) dL_law_1476 rfl 3 rfl ?_
    refine xw_aload_n hf (pc := 1477) dL_law_1477 rfl 1 rfl ?_
    refine xw_iload hf (pc := 1478) dL_law_1478 5 rfl ?_
    refine xw_iconst hf (pc := 1480) dL_law_1480 (v := 1) (by decide) ?_
    refine xw_iadd hf (pc := 1481) dL_law_1481 ?_
    refine xw_sald hf hX dL_law_1482 h.1 ?_
    have h := h.2
    refine xw_i2l hf (pc := 1483) dL_law_1483 ?_
    refine xw_bipush hf (pc := 1484) dL_law_1484 (v := 32) (by decide) ?_
    refine xw_lshl hf (pc := 1486) dL_law_1486 ?_
    refine xw_aload_n hf (pc := 1487) dL_law_1487 rfl 1 rfl ?_
    refine xw_iload hf (pc := 1488) dL_law_1488 5 rfl ?_
    refine xw_iconst hf (pc := 1490) dL_law_1490 (v := 2) (by decide) ?_
    refine xw_iadd hf (pc := 1491) dL_law_1491 ?_
    refine xw_sald hf hX dL_law_1492 h.1 ?_
    have h := h.2
    refine xw_i2l hf (pc := 1493) dL_law_1493 ?_
    refine xw_ldc2 hf (pc := 1494) dL_law_1494 mw_L_law_0 ?_
    refine xw_land hf (pc := 1497) dL_law_1497 ?_
    refine xw_lor hf (pc := 1498) dL_law_1498 ?_
    refine xw_callV hf (pc := 1499) (nA := 1) (Xr := [(a0, .inr (8, [.ref a1, .ref a8, .ref a13, .ref a18, .ref a25])), (a1, .inr (2, [.ref a2, .ref a4, .ref a6])), (a2, .inr (7, [.ref a3, .int v0])), (a3, .inl (gJ (xg x), 60, .inr (.inl v1))), (a4, .inr (7, [.ref a5, .int v2])), (a5, .inl (gJ (xg x), 60, .inr (.inl v3))), (a6, .inr (3, [.ref a7])), (a7, .inl (gI (xg x), 32, .inl v4)), (a8, .inr (6, [.ref a9, .ref a11, .ref a12])), (a9, .inr (3, [.ref a10])), (a10, .inl (gI (xg x), 32, .inl v5)), (a11, .inl (gI (xg x), 32, .inl v6)), (a12, .inl (gI (xg x), 32, .inl v7)), (a13, .inr (1, [.ref a39, .ref a14, .ref a16, .int v8])), (a14, .inr (3, [.ref a15])), (a15, .inl (gI (xg x), 32, .inl v9)), (a16, .inr (3, [.ref a17])), (a17, .inl (gI (xg x), 32, .inl v10)), (a18, .inr (4, [.ref a19, .ref a21, .ref a23, .int v11, .int v12])), (a19, .inr (3, [.ref a20])), (a20, .inl (gI (xg x), 32, .inl v13)), (a21, .inr (7, [.ref a22, .int v14])), (a22, .inl (gJ (xg x), 60, .inr (.inl v15))), (a23, .inr (7, [.ref a24, .int v16])), (a24, .inl (gJ (xg x), 60, .inr (.inl v17))), (a25, .inr (3, [.ref a26])), (a26, .inl (gI (xg x), 32, .inl v18)), (a28, .inl (gJ (xg x), 60, .inr (.inl v25))), (a30, .inl (gI (xg x), 27, .inl v27)), (a31, .inl (gI (xg x), 27, .inl v28)), (a32, .inl (gI (xg x), 27, .inl v29)), (v30, .inl (gJ (xg x), v31, .inr (.inl v32))), (v33, .inl (gI (xg x), v34, .inl v35)), (v36, .inl (gZ (xg x), v37, .inl v38)), (a35, .inl (gI (xg x), 27, .inl v41)), (a36, .inl (gI (xg x), 60, .inl v42)), (a37, .inl (gI (xg x), 3, .inl v43)), (a38, .inl (gJ (xg x), 1, .inr (.inl w327)))] ++ ZP (xg x) a39 v45) (rest := []) (T := TX9) (c_X9_missingLetter (xl x) (xg x) a27 a29 a33 a34 a28 a30 a31 a32 v30 v33 v36 a35 a36 a37 v19 v20 v21 v22 v23 v24 v26 v39 v40 ((((v47 (z4 + 1).toNatClampNeg).toInt64) <<< ((32 : Int32).toInt64 &&& 63)) ||| (((v47 (z4 + 2).toNatClampNeg).toInt64) &&& 4294967295)) h) gL_law_X9_missingLetter (by rfl) rfl rfl (by decide +kernel) ⟨⟨(Nat.le_of_ble_eq_true rfl), (Nat.le_of_ble_eq_true rfl)⟩, (Nat.le_trans (Nat.le_add_right _ _) hk.1), (Nat.le_trans (Nat.le_add_right _ _) hk.2)⟩ (Nat.le_of_ble_eq_true rfl) rfl rfl (sb_zr (sb_of [27, 29, 36, 37, 0, 1, 2, 3, 4, 5, 6, 7, 8, 9, 10, 11, 12, 13, 14, 15, 16, 17, 18, 19, 20, 21, 22, 23, 24, 25, 26, 28, 30, 31, 32, 33, 34, 35, 38, 39, 40, 41] rfl rfl)) rfl dL_law_1499 (fun v X1 hp => ?_)
    obtain ⟨r330, w331, w332, w333, w334, rfl, rfl, h⟩ := hp
    refine xw_X (sb_rz (sb_of [4, 5, 6, 7, 8, 9, 10, 11, 12, 13, 14, 15, 16, 17, 18, 19, 20, 21, 22, 23, 24, 25, 26, 27, 28, 29, 30, 0, 31, 1, 32, 33, 34, 35, 36, 37, 2, 3, 38, 39, 40, 41] rfl rfl)) (show ww x (W_L_law (xg x) a0 a1 a2 a3 a4 a5 a6 a7 a8 a9 a10 a11 a12 a13 a14 a15 a16 a17 a18 a19 a20 a21 a22 a23 a24 a25 a26 a27 a28 a29 a30 a31 a32 a33 a34 a35 a36 a37 a38 a39 ab v0 v1 v2 v3 v4 v5 v6 v7 v8 v9 v10 v11 v12 v13 v14 v15 v16 v17 v18 w331 v20 v21 v22 w332 v24 v25 v26 v27 v28 v29 v30 v31 v32 v33 v34 v35 v36 v37 v38 w333 w334 v41 v42 v43 w327 v46 v47 ++ ZP (xg x) a39 v45) [(5, .int r326), (0, .ref ab), (1, .ref a0), (2, .ref a27), (3, .ref a38), (4, .int z4)] (k0 + 1) (n0 + 6) 1502 [.int r330] from ?_)
    refine xw_istore hf (pc := 1502) dL_law_1502 [(6, .int r330), (5, .int r326), (0, .ref ab), (1, .ref a0), (2, .ref a27), (3, .ref a38), (4, .int z4)] hn (by decide) rfl ?_
    refine xw_aload_n hf (pc := 1504) dL_law_1504 rfl 4 rfl ?_
    refine xw_callV hf (pc := 1505) (nA := 0) (Xr := [(a0, .inr (8, [.ref a1, .ref a8, .ref a13, .ref a18, .ref a25])), (a1, .inr (2, [.ref a2, .ref a4, .ref a6])), (a2, .inr (7, [.ref a3, .int v0])), (a3, .inl (gJ (xg x), 60, .inr (.inl v1))), (a4, .inr (7, [.ref a5, .int v2])), (a5, .inl (gJ (xg x), 60, .inr (.inl v3))), (a6, .inr (3, [.ref a7])), (a7, .inl (gI (xg x), 32, .inl v4)), (a8, .inr (6, [.ref a9, .ref a11, .ref a12])), (a9, .inr (3, [.ref a10])), (a10, .inl (gI (xg x), 32, .inl v5)), (a11, .inl (gI (xg x), 32, .inl v6)), (a12, .inl (gI (xg x), 32, .inl v7)), (a13, .inr (1, [.ref a39, .ref a14, .ref a16, .int v8])), (a14, .inr (3, [.ref a15])), (a15, .inl (gI (xg x), 32, .inl v9)), (a16, .inr (3, [.ref a17])), (a17, .inl (gI (xg x), 32, .inl v10)), (a18, .inr (4, [.ref a19, .ref a21, .ref a23, .int v11, .int v12])), (a19, .inr (3, [.ref a20])), (a20, .inl (gI (xg x), 32, .inl v13)), (a21, .inr (7, [.ref a22, .int v14])), (a22, .inl (gJ (xg x), 60, .inr (.inl v15))), (a23, .inr (7, [.ref a24, .int v16])), (a24, .inl (gJ (xg x), 60, .inr (.inl v17))), (a25, .inr (3, [.ref a26])), (a26, .inl (gI (xg x), 32, .inl v18)), (a28, .inl (gJ (xg x), 60, .inr (.inl v25))), (a29, .inl (gI (xg x), 27, .inl v26)), (a30, .inl (gI (xg x), 27, .inl v27)), (a31, .inl (gI (xg x), 27, .inl v28)), (a32, .inl (gI (xg x), 27, .inl v29)), (v30, .inl (gJ (xg x), v31, .inr (.inl v32))), (v33, .inl (gI (xg x), v34, .inl v35)), (v36, .inl (gZ (xg x), v37, .inl v38)), (a33, .inl (gI (xg x), 12, .inl w333)), (a34, .inl (gI (xg x), 27, .inl w334)), (a35, .inl (gI (xg x), 27, .inl v41)), (a36, .inl (gI (xg x), 60, .inl v42)), (a37, .inl (gI (xg x), 3, .inl v43)), (a38, .inl (gJ (xg x), 1, .inr (.inl w327)))] ++ ZP (xg x) a39 v45) (rest := []) (T := TX9) (c_X9_thrown (xl x) (xg x) a27 a28 a29 a30 a31 a32 v30 v33 v36 a33 a34 a35 a36 a37 w331 v20 v21 v22 w332 v24 h) gL_law_X9_thrown (by rfl) rfl rfl (by decide +kernel) ⟨⟨(Nat.le_of_ble_eq_true rfl), (Nat.le_of_ble_eq_true rfl)⟩, (Nat.le_trans (Nat.le_add_right _ _) hk.1), (Nat.le_trans (Nat.le_add_right _ _) hk.2)⟩ (Nat.le_of_ble_eq_true rfl) rfl rfl (sb_zr (sb_of [27, 0, 1, 2, 3, 4, 5, 6, 7, 8, 9, 10, 11, 12, 13, 14, 15, 16, 17, 18, 19, 20, 21, 22, 23, 24, 25, 26, 28, 29, 30, 31, 32, 33, 34, 35, 36, 37, 38, 39, 40, 41] rfl rfl)) rfl dL_law_1505 (fun v X1 hp => ?_)
    obtain ⟨r335, rfl, rfl, h⟩ := hp
    refine xw_X (sb_rz (sb_of [1, 2, 3, 4, 5, 6, 7, 8, 9, 10, 11, 12, 13, 14, 15, 16, 17, 18, 19, 20, 21, 22, 23, 24, 25, 26, 27, 0, 28, 29, 30, 31, 32, 33, 34, 35, 36, 37, 38, 39, 40, 41] rfl rfl)) (show ww x (W_L_law (xg x) a0 a1 a2 a3 a4 a5 a6 a7 a8 a9 a10 a11 a12 a13 a14 a15 a16 a17 a18 a19 a20 a21 a22 a23 a24 a25 a26 a27 a28 a29 a30 a31 a32 a33 a34 a35 a36 a37 a38 a39 ab v0 v1 v2 v3 v4 v5 v6 v7 v8 v9 v10 v11 v12 v13 v14 v15 v16 v17 v18 w331 v20 v21 v22 w332 v24 v25 v26 v27 v28 v29 v30 v31 v32 v33 v34 v35 v36 v37 v38 w333 w334 v41 v42 v43 w327 v46 v47 ++ ZP (xg x) a39 v45) [(6, .int r330), (5, .int r326), (0, .ref ab), (1, .ref a0), (2, .ref a27), (3, .ref a38), (4, .int z4)] (k0 + 1) (n0 + 6) 1508 [.int r335] from ?_)
    refine xw_iload hf (pc := 1508) dL_law_1508 1 rfl ?_
    refine xw_icmp_eq hf (pc := 1510) dL_law_1510 (tgt := 1515) rfl ⟨fun c => ?_, fun c => ?_⟩
    · have h := h.1 c
      refine xw_iload hf (pc := 1515) dL_law_1515 1 rfl ?_
      refine xw_if_ne hf (pc := 1517) dL_law_1517 (c := r326 = 0) Iff.rfl (tgt := 1532) rfl ⟨fun c => ?_, fun c => ?_⟩
      · have h := h.1 c
        refine xw_aload_n hf (pc := 1520) dL_law_1520 rfl 5 rfl ?_
        refine xw_iconst hf (pc := 1521) dL_law_1521 (v := 0) (by decide) ?_
        refine xw_lald hf (pc := 1522) dL_law_1522 41 rfl h.1 ?_
        have h := h.2
        refine xw_iload hf (pc := 1523) dL_law_1523 0 rfl ?_
        refine xw_i2l hf (pc := 1525) dL_law_1525 ?_
        refine xw_lcmp hf (pc := 1526) dL_law_1526 ?_
        refine xw_if_eq hf (pc := 1527) dL_law_1527 (c := (w327 (0 : Int32).toNatClampNeg) = r330.toInt64) (lc_eq _ _) (tgt := 1532) rfl ⟨fun c => ?_, fun c => ?_⟩
        · have h := h.1 c
          refine xw_goto hf (pc := 1532) dL_law_1532 (tgt := 2681) rfl ?_
          refine xw_L [2, 3, 4, 5, 6] rfl ?_
          exact hK2681 _ _ _ _ hk _ _ _ _ _ h
        · have h := h.2 c
          refine xw_iconst hf (pc := 1530) dL_law_1530 (v := 0) (by decide) ?_
          exact h.elim
      · have h := h.2 c
        refine xw_goto hf (pc := 1532) dL_law_1532 (tgt := 2681) rfl ?_
        refine xw_L [2, 3, 4, 5, 6] rfl ?_
        exact hK2681 _ _ _ _ hk _ _ _ _ _ h
    · have h := h.2 c
      refine xw_iconst hf (pc := 1513) dL_law_1513 (v := 0) (by decide) ?_
      exact h.elim
set_option maxHeartbeats 4000000 in
set_option maxRecDepth 100000 in
theorem w_L_law_L1535 {x : Cx} {mc ms : Nat} (hf : fx x (rm_L_law) RL cL_law wsL_law) (hn : xn x = 8) {k0 n0 rc rs : Nat} (hk : k0 + rc ≤ (rm_L_law).cells ∧ n0 + rs ≤ (rm_L_law).slots) (a0 a1 a2 a3 a4 a5 a6 a7 a8 a9 a10 a11 a12 a13 a14 a15 a16 a17 a18 a19 a20 a21 a22 a23 a24 a25 a26 a27 a28 a29 a30 a31 a32 a33 a34 a35 a36 a37 a38 a39 ab : Nat) (z4 : Int32) (v0 : Int32) (v1 : Nat → Int64) (v6 : Nat → Int32) (v7 : Nat → Int32) (v20 : Int32) (v21 : Int32) (v22 : Int32) (v24 : Int32) (v25 : Nat → Int64) (v26 : Nat → Int32) (v27 : Nat → Int32) (v46 : Nat) (v47 : Nat → Int32) (v2 : Int32) (v3 : Nat → Int64) (v4 : Nat → Int32) (v8 : Int32) (v9 : Nat → Int32) (v10 : Nat → Int32) (v11 : Int32) (v12 : Int32) (v13 : Nat → Int32) (v14 : Int32) (v15 : Nat → Int64) (v16 : Int32) (v17 : Nat → Int64) (v18 : Nat → Int32) (v28 : Nat → Int32) (v29 : Nat → Int32) (v30 : Nat) (v31 : Nat) (v32 : Nat → Int64) (v33 : Nat) (v34 : Nat) (v35 : Nat → Int32) (v36 : Nat) (v37 : Nat) (v38 : Nat → Int32) (v42 : Nat → Int32) (v43 : Nat → Int32) (v45 : ZL) {K2681 : Nat → Nat → (Nat → Int32) → Int32 → Int32 → (Nat → Int32) → (Nat → Int32) → (Nat → Int32) → (Nat → Int64) → Prop} (hst : (xl x).stackTraces = false) (hX : sX x ab v46 v47)
    (n : Nat) (v5 : Nat → Int32) (v19 : Int32) (v23 : Int32) (v39 : Nat → Int32) (v40 : Nat → Int32) (v41 : Nat → Int32) (v44 : Nat → Int64) (h : P_L_law_L1535 z4 v0 v1 v6 v7 v20 v21 v22 v24 v25 v26 v27 v46 v47 K2681 n rc rs v5 v19 v23 v39 v40 v41 v44)
    (hK2681 : ∀ (k0 n0 rc rs : Nat), k0 + rc ≤ (rm_L_law).cells ∧ n0 + rs ≤ (rm_L_law).slots → ∀ (uv5 : Nat → Int32), ∀ (uv19 : Int32), ∀ (uv23 : Int32), ∀ (uv39 : Nat → Int32), ∀ (uv40 : Nat → Int32), ∀ (uv41 : Nat → Int32), ∀ (uv44 : Nat → Int64), K2681 rc rs uv5 uv19 uv23 uv39 uv40 uv41 uv44 → ww x (W_L_law (xg x) a0 a1 a2 a3 a4 a5 a6 a7 a8 a9 a10 a11 a12 a13 a14 a15 a16 a17 a18 a19 a20 a21 a22 a23 a24 a25 a26 a27 a28 a29 a30 a31 a32 a33 a34 a35 a36 a37 a38 a39 ab v0 v1 v2 v3 v4 uv5 v6 v7 v8 v9 v10 v11 v12 v13 v14 v15 v16 v17 v18 uv19 v20 v21 v22 uv23 v24 v25 v26 v27 v28 v29 v30 v31 v32 v33 v34 v35 v36 v37 v38 uv39 uv40 uv41 v42 v43 uv44 v46 v47 ++ ZP (xg x) a39 v45) [(0, .ref ab), (1, .ref a0), (2, .ref a27), (3, .ref a38), (4, .int z4)] k0 n0 2681 []) :
    ww x (W_L_law (xg x) a0 a1 a2 a3 a4 a5 a6 a7 a8 a9 a10 a11 a12 a13 a14 a15 a16 a17 a18 a19 a20 a21 a22 a23 a24 a25 a26 a27 a28 a29 a30 a31 a32 a33 a34 a35 a36 a37 a38 a39 ab v0 v1 v2 v3 v4 v5 v6 v7 v8 v9 v10 v11 v12 v13 v14 v15 v16 v17 v18 v19 v20 v21 v22 v23 v24 v25 v26 v27 v28 v29 v30 v31 v32 v33 v34 v35 v36 v37 v38 v39 v40 v41 v42 v43 v44 v46 v47 ++ ZP (xg x) a39 v45) [(0, .ref ab), (1, .ref a0), (2, .ref a27), (3, .ref a38), (4, .int z4)] k0 n0 1535 [] := by
  induction n generalizing k0 n0 rc rs v5 v19 v23 v39 v40 v41 v44 with
  | zero => exact h.elim
  | succ n ih =>
    unfold P_L_law_L1535 at h
    refine xw_aload_n hf (pc := 1535) dL_law_1535 rfl 1 rfl ?_
    refine xw_aload_n hf (pc := 1536) dL_law_1536 rfl 0 rfl ?_
    refine xw_iload hf (pc := 1537) dL_law_1537 4 rfl ?_
    refine xw_iconst hf (pc := 1539) dL_law_1539 (v := 1) (by decide) ?_
    refine xw_iadd hf (pc := 1540) dL_law_1540 ?_
    refine xw_sald hf hX dL_law_1541 h.1 ?_
    have h := h.2
    refine xw_i2l hf (pc := 1542) dL_law_1542 ?_
    refine xw_bipush hf (pc := 1543) dL_law_1543 (v := 32) (by decide) ?_
    refine xw_lshl hf (pc := 1545) dL_law_1545 ?_
    refine xw_aload_n hf (pc := 1546) dL_law_1546 rfl 0 rfl ?_
    refine xw_iload hf (pc := 1547) dL_law_1547 4 rfl ?_
    refine xw_iconst hf (pc := 1549) dL_law_1549 (v := 2) (by decide) ?_
    refine xw_iadd hf (pc := 1550) dL_law_1550 ?_
    refine xw_sald hf hX dL_law_1551 h.1 ?_
    have h := h.2
    refine xw_i2l hf (pc := 1552) dL_law_1552 ?_
    refine xw_ldc2 hf (pc := 1553) dL_law_1553 mw_L_law_0 ?_
    refine xw_land hf (pc := 1556) dL_law_1556 ?_
    refine xw_lor hf (pc := 1557) dL_law_1557 ?_
    refine xw_aload_n hf (pc := 1558) dL_law_1558 rfl 0 rfl ?_
    refine xw_iload hf (pc := 1559) dL_law_1559 4 rfl ?_
    refine xw_iconst hf (pc := 1561) dL_law_1561 (v := 3) (by decide) ?_
    refine xw_iadd hf (pc := 1562) dL_law_1562 ?_
    refine xw_sald hf hX dL_law_1563 h.1 ?_
    have h := h.2
    refine xw_aload_n hf (pc := 1564) dL_law_1564 rfl 3 rfl ?_
    obtain ⟨mc348, ms349, ⟨hb1, hb2⟩, h⟩ := h
    refine xw_callSW hf (pc := 1565) (nA := 4) (Xr := [(a4, .inr (7, [.ref a5, .int v2])), (a5, .inl (gJ (xg x), 60, .inr (.inl v3))), (a6, .inr (3, [.ref a7])), (a7, .inl (gI (xg x), 32, .inl v4)), (a13, .inr (1, [.ref a39, .ref a14, .ref a16, .int v8])), (a14, .inr (3, [.ref a15])), (a15, .inl (gI (xg x), 32, .inl v9)), (a16, .inr (3, [.ref a17])), (a17, .inl (gI (xg x), 32, .inl v10)), (a18, .inr (4, [.ref a19, .ref a21, .ref a23, .int v11, .int v12])), (a19, .inr (3, [.ref a20])), (a20, .inl (gI (xg x), 32, .inl v13)), (a21, .inr (7, [.ref a22, .int v14])), (a22, .inl (gJ (xg x), 60, .inr (.inl v15))), (a23, .inr (7, [.ref a24, .int v16])), (a24, .inl (gJ (xg x), 60, .inr (.inl v17))), (a25, .inr (3, [.ref a26])), (a26, .inl (gI (xg x), 32, .inl v18)), (a27, .inr (9, [.int v19, .ref a28, .int v20, .ref a29, .ref a30, .ref a31, .ref a32, .ref v30, .ref v33, .ref v36, .int v21, .int v22, .ref a33, .int v23, .ref a34, .ref a35, .ref a36, .ref a37, .int v24])), (a28, .inl (gJ (xg x), 60, .inr (.inl v25))), (a29, .inl (gI (xg x), 27, .inl v26)), (a30, .inl (gI (xg x), 27, .inl v27)), (a31, .inl (gI (xg x), 27, .inl v28)), (a32, .inl (gI (xg x), 27, .inl v29)), (v30, .inl (gJ (xg x), v31, .inr (.inl v32))), (v33, .inl (gI (xg x), v34, .inl v35)), (v36, .inl (gZ (xg x), v37, .inl v38)), (a33, .inl (gI (xg x), 12, .inl v39)), (a34, .inl (gI (xg x), 27, .inl v40)), (a35, .inl (gI (xg x), 27, .inl v41)), (a36, .inl (gI (xg x), 60, .inl v42)), (a37, .inl (gI (xg x), 3, .inl v43))] ++ ZP (xg x) a39 v45) (rest := []) (c_L_refusalOf (xl x) (xg x) hst a0 a1 a2 a3 a8 a9 a10 a11 a12 a38 a13 a18 a25 a4 a6 v0 v1 v5 v6 v7 v44 ((((v47 (z4 + 1).toNatClampNeg).toInt64) <<< ((32 : Int32).toInt64 &&& 63)) ||| (((v47 (z4 + 2).toNatClampNeg).toInt64) &&& 4294967295)) (v47 (z4 + 3).toNatClampNeg) h) gL_law_L_refusalOf (by rfl) rfl (by decide +kernel) ⟨⟨(Nat.le_of_ble_eq_true rfl), (Nat.le_of_ble_eq_true rfl)⟩, (Nat.le_trans (show k0 + 2 ≤ k0 + rc by omega) hk.1), (Nat.le_trans (show n0 + 12 ≤ n0 + rs by omega) hk.2)⟩ (Nat.le_of_ble_eq_true rfl) (sb_zr (sb_of [0, 1, 2, 3, 8, 9, 10, 11, 12, 41, 4, 5, 6, 7, 13, 14, 15, 16, 17, 18, 19, 20, 21, 22, 23, 24, 25, 26, 27, 28, 29, 30, 31, 32, 33, 34, 35, 36, 37, 38, 39, 40] rfl rfl)) rfl dL_law_1565 (fun v X1 hp => ?_)
    obtain ⟨r345, w346, w347, rfl, rfl, h⟩ := hp
    have hk : k0 + 2 + mc348 ≤ (rm_L_law).cells ∧ n0 + 12 + ms349 ≤ (rm_L_law).slots := ⟨Nat.le_trans (show k0 + 2 + mc348 ≤ k0 + rc by omega) hk.1, Nat.le_trans (show n0 + 12 + ms349 ≤ n0 + rs by omega) hk.2⟩
    refine xw_X (sb_rz (sb_of [0, 1, 2, 3, 10, 11, 12, 13, 4, 5, 6, 7, 8, 14, 15, 16, 17, 18, 19, 20, 21, 22, 23, 24, 25, 26, 27, 28, 29, 30, 31, 32, 33, 34, 35, 36, 37, 38, 39, 40, 41, 9] rfl rfl)) (show ww x (W_L_law (xg x) a0 a1 a2 a3 a4 a5 a6 a7 a8 a9 a10 a11 a12 a13 a14 a15 a16 a17 a18 a19 a20 a21 a22 a23 a24 a25 a26 a27 a28 a29 a30 a31 a32 a33 a34 a35 a36 a37 a38 a39 ab v0 v1 v2 v3 v4 w346 v6 v7 v8 v9 v10 v11 v12 v13 v14 v15 v16 v17 v18 v19 v20 v21 v22 v23 v24 v25 v26 v27 v28 v29 v30 v31 v32 v33 v34 v35 v36 v37 v38 v39 v40 v41 v42 v43 w347 v46 v47 ++ ZP (xg x) a39 v45) [(0, .ref ab), (1, .ref a0), (2, .ref a27), (3, .ref a38), (4, .int z4)] (k0 + 2) (n0 + 12) 1568 [.int r345] from ?_)
    refine xw_istore hf (pc := 1568) dL_law_1568 [(5, .int r345), (0, .ref ab), (1, .ref a0), (2, .ref a27), (3, .ref a38), (4, .int z4)] hn (by decide) rfl ?_
    refine xw_aload_n hf (pc := 1570) dL_law_1570 rfl 3 rfl ?_
    refine xw_aload_n hf (pc := 1571) dL_law_1571 rfl 1 rfl ?_
    refine xw_iload hf (pc := 1572) dL_law_1572 5 rfl ?_
    refine xw_iconst hf (pc := 1574) dL_law_1574 (v := 1) (by decide) ?_
    refine xw_iadd hf (pc := 1575) dL_law_1575 ?_
    refine xw_sald hf hX dL_law_1576 h.1 ?_
    have h := h.2
    refine xw_i2l hf (pc := 1577) dL_law_1577 ?_
    refine xw_bipush hf (pc := 1578) dL_law_1578 (v := 32) (by decide) ?_
    refine xw_lshl hf (pc := 1580) dL_law_1580 ?_
    refine xw_aload_n hf (pc := 1581) dL_law_1581 rfl 1 rfl ?_
    refine xw_iload hf (pc := 1582) dL_law_1582 5 rfl ?_
    refine xw_iconst hf (pc := 1584) dL_law_1584 (v := 2) (by decide) ?_
    refine xw_iadd hf (pc := 1585) dL_law_1585 ?_
    refine xw_sald hf hX dL_law_1586 h.1 ?_
    have h := h.2
    refine xw_i2l hf (pc := 1587) dL_law_1587 ?_
    refine xw_ldc2 hf (pc := 1588) dL_law_1588 mw_L_law_0 ?_
    refine xw_land hf (pc := 1591) dL_law_1591 ?_
    refine xw_lor hf (pc := 1592) dL_law_1592 ?_
    refine xw_aload_n hf (pc := 1593) dL_law_1593 rfl 1 rfl ?_
    refine xw_iload hf (pc := 1594) dL_law_1594 5 rfl ?_
    refine xw_iconst hf (pc := 1596) dL_law_1596 (v := 3) (by decide) ?_
    refine xw_iadd hf (pc := 1597) dL_law_1597 ?_
    refine xw_sald hf hX dL_law_1598 h.1 ?_
    have h := h.2
    refine xw_callV hf (pc := 1599) (nA := 2) (Xr := [(a0, .inr (8, [.ref a1, .ref a8, .ref a13, .ref a18, .ref a25])), (a1, .inr (2, [.ref a2, .ref a4, .ref a6])), (a2, .inr (7, [.ref a3, .int v0])), (a3, .inl (gJ (xg x), 60, .inr (.inl v1))), (a4, .inr (7, [.ref a5, .int v2])), (a5, .inl (gJ (xg x), 60, .inr (.inl v3))), (a6, .inr (3, [.ref a7])), (a7, .inl (gI (xg x), 32, .inl v4)), (a8, .inr (6, [.ref a9, .ref a11, .ref a12])), (a9, .inr (3, [.ref a10])), (a10, .inl (gI (xg x), 32, .inl w346)), (a11, .inl (gI (xg x), 32, .inl v6)), (a12, .inl (gI (xg x), 32, .inl v7)), (a13, .inr (1, [.ref a39, .ref a14, .ref a16, .int v8])), (a14, .inr (3, [.ref a15])), (a15, .inl (gI (xg x), 32, .inl v9)), (a16, .inr (3, [.ref a17])), (a17, .inl (gI (xg x), 32, .inl v10)), (a18, .inr (4, [.ref a19, .ref a21, .ref a23, .int v11, .int v12])), (a19, .inr (3, [.ref a20])), (a20, .inl (gI (xg x), 32, .inl v13)), (a21, .inr (7, [.ref a22, .int v14])), (a22, .inl (gJ (xg x), 60, .inr (.inl v15))), (a23, .inr (7, [.ref a24, .int v16])), (a24, .inl (gJ (xg x), 60, .inr (.inl v17))), (a25, .inr (3, [.ref a26])), (a26, .inl (gI (xg x), 32, .inl v18)), (a31, .inl (gI (xg x), 27, .inl v28)), (a32, .inl (gI (xg x), 27, .inl v29)), (v30, .inl (gJ (xg x), v31, .inr (.inl v32))), (v33, .inl (gI (xg x), v34, .inl v35)), (v36, .inl (gZ (xg x), v37, .inl v38)), (a36, .inl (gI (xg x), 60, .inl v42)), (a37, .inl (gI (xg x), 3, .inl v43)), (a38, .inl (gJ (xg x), 1, .inr (.inl w347)))] ++ ZP (xg x) a39 v45) (rest := []) (T := TX9) (c_X9_refusalOf (xl x) (xg x) a27 a28 a29 a30 a33 a34 a35 a31 a32 v30 v33 v36 a36 a37 v19 v20 v21 v22 v23 v24 v25 v26 v27 v39 v40 v41 ((((v47 (z4 + 1).toNatClampNeg).toInt64) <<< ((32 : Int32).toInt64 &&& 63)) ||| (((v47 (z4 + 2).toNatClampNeg).toInt64) &&& 4294967295)) (v47 (z4 + 3).toNatClampNeg) h) gL_law_X9_refusalOf (by rfl) rfl rfl (by decide +kernel) ⟨⟨(Nat.le_of_ble_eq_true rfl), (Nat.le_of_ble_eq_true rfl)⟩, (Nat.le_trans (Nat.le_add_right _ _) hk.1), (Nat.le_trans (Nat.le_add_right _ _) hk.2)⟩ (Nat.le_of_ble_eq_true rfl) rfl rfl (sb_zr (sb_of [27, 28, 29, 30, 36, 37, 38, 0, 1, 2, 3, 4, 5, 6, 7, 8, 9, 10, 11, 12, 13, 14, 15, 16, 17, 18, 19, 20, 21, 22, 23, 24, 25, 26, 31, 32, 33, 34, 35, 39, 40, 41] rfl rfl)) rfl dL_law_1599 (fun v X1 hp => ?_)
    obtain ⟨r350, w351, w352, w353, w354, w355, rfl, rfl, h⟩ := hp
    refine xw_X (sb_rz (sb_of [7, 8, 9, 10, 11, 12, 13, 14, 15, 16, 17, 18, 19, 20, 21, 22, 23, 24, 25, 26, 27, 28, 29, 30, 31, 32, 33, 0, 1, 2, 3, 34, 35, 36, 37, 38, 4, 5, 6, 39, 40, 41] rfl rfl)) (show ww x (W_L_law (xg x) a0 a1 a2 a3 a4 a5 a6 a7 a8 a9 a10 a11 a12 a13 a14 a15 a16 a17 a18 a19 a20 a21 a22 a23 a24 a25 a26 a27 a28 a29 a30 a31 a32 a33 a34 a35 a36 a37 a38 a39 ab v0 v1 v2 v3 v4 w346 v6 v7 v8 v9 v10 v11 v12 v13 v14 v15 v16 v17 v18 w351 v20 v21 v22 w352 v24 v25 v26 v27 v28 v29 v30 v31 v32 v33 v34 v35 v36 v37 v38 w353 w354 w355 v42 v43 w347 v46 v47 ++ ZP (xg x) a39 v45) [(5, .int r345), (0, .ref ab), (1, .ref a0), (2, .ref a27), (3, .ref a38), (4, .int z4)] (k0 + 2) (n0 + 12) 1602 [.int r350] from ?_)
    refine xw_istore hf (pc := 1602) dL_law_1602 [(6, .int r350), (5, .int r345), (0, .ref ab), (1, .ref a0), (2, .ref a27), (3, .ref a38), (4, .int z4)] hn (by decide) rfl ?_
    refine xw_aload_n hf (pc := 1604) dL_law_1604 rfl 4 rfl ?_
    refine xw_callV hf (pc := 1605) (nA := 0) (Xr := [(a0, .inr (8, [.ref a1, .ref a8, .ref a13, .ref a18, .ref a25])), (a1, .inr (2, [.ref a2, .ref a4, .ref a6])), (a2, .inr (7, [.ref a3, .int v0])), (a3, .inl (gJ (xg x), 60, .inr (.inl v1))), (a4, .inr (7, [.ref a5, .int v2])), (a5, .inl (gJ (xg x), 60, .inr (.inl v3))), (a6, .inr (3, [.ref a7])), (a7, .inl (gI (xg x), 32, .inl v4)), (a8, .inr (6, [.ref a9, .ref a11, .ref a12])), (a9, .inr (3, [.ref a10])), (a10, .inl (gI (xg x), 32, .inl w346)), (a11, .inl (gI (xg x), 32, .inl v6)), (a12, .inl (gI (xg x), 32, .inl v7)), (a13, .inr (1, [.ref a39, .ref a14, .ref a16, .int v8])), (a14, .inr (3, [.ref a15])), (a15, .inl (gI (xg x), 32, .inl v9)), (a16, .inr (3, [.ref a17])), (a17, .inl (gI (xg x), 32, .inl v10)), (a18, .inr (4, [.ref a19, .ref a21, .ref a23, .int v11, .int v12])), (a19, .inr (3, [.ref a20])), (a20, .inl (gI (xg x), 32, .inl v13)), (a21, .inr (7, [.ref a22, .int v14])), (a22, .inl (gJ (xg x), 60, .inr (.inl v15))), (a23, .inr (7, [.ref a24, .int v16])), (a24, .inl (gJ (xg x), 60, .inr (.inl v17))), (a25, .inr (3, [.ref a26])), (a26, .inl (gI (xg x), 32, .inl v18)), (a28, .inl (gJ (xg x), 60, .inr (.inl v25))), (a29, .inl (gI (xg x), 27, .inl v26)), (a30, .inl (gI (xg x), 27, .inl v27)), (a31, .inl (gI (xg x), 27, .inl v28)), (a32, .inl (gI (xg x), 27, .inl v29)), (v30, .inl (gJ (xg x), v31, .inr (.inl v32))), (v33, .inl (gI (xg x), v34, .inl v35)), (v36, .inl (gZ (xg x), v37, .inl v38)), (a33, .inl (gI (xg x), 12, .inl w353)), (a34, .inl (gI (xg x), 27, .inl w354)), (a35, .inl (gI (xg x), 27, .inl w355)), (a36, .inl (gI (xg x), 60, .inl v42)), (a37, .inl (gI (xg x), 3, .inl v43)), (a38, .inl (gJ (xg x), 1, .inr (.inl w347)))] ++ ZP (xg x) a39 v45) (rest := []) (T := TX9) (c_X9_thrown (xl x) (xg x) a27 a28 a29 a30 a31 a32 v30 v33 v36 a33 a34 a35 a36 a37 w351 v20 v21 v22 w352 v24 h) gL_law_X9_thrown (by rfl) rfl rfl (by decide +kernel) ⟨⟨(Nat.le_of_ble_eq_true rfl), (Nat.le_of_ble_eq_true rfl)⟩, (Nat.le_trans (Nat.le_add_right _ _) hk.1), (Nat.le_trans (Nat.le_add_right _ _) hk.2)⟩ (Nat.le_of_ble_eq_true rfl) rfl rfl (sb_zr (sb_of [27, 0, 1, 2, 3, 4, 5, 6, 7, 8, 9, 10, 11, 12, 13, 14, 15, 16, 17, 18, 19, 20, 21, 22, 23, 24, 25, 26, 28, 29, 30, 31, 32, 33, 34, 35, 36, 37, 38, 39, 40, 41] rfl rfl)) rfl dL_law_1605 (fun v X1 hp => ?_)
    obtain ⟨r356, rfl, rfl, h⟩ := hp
    refine xw_X (sb_rz (sb_of [1, 2, 3, 4, 5, 6, 7, 8, 9, 10, 11, 12, 13, 14, 15, 16, 17, 18, 19, 20, 21, 22, 23, 24, 25, 26, 27, 0, 28, 29, 30, 31, 32, 33, 34, 35, 36, 37, 38, 39, 40, 41] rfl rfl)) (show ww x (W_L_law (xg x) a0 a1 a2 a3 a4 a5 a6 a7 a8 a9 a10 a11 a12 a13 a14 a15 a16 a17 a18 a19 a20 a21 a22 a23 a24 a25 a26 a27 a28 a29 a30 a31 a32 a33 a34 a35 a36 a37 a38 a39 ab v0 v1 v2 v3 v4 w346 v6 v7 v8 v9 v10 v11 v12 v13 v14 v15 v16 v17 v18 w351 v20 v21 v22 w352 v24 v25 v26 v27 v28 v29 v30 v31 v32 v33 v34 v35 v36 v37 v38 w353 w354 w355 v42 v43 w347 v46 v47 ++ ZP (xg x) a39 v45) [(6, .int r350), (5, .int r345), (0, .ref ab), (1, .ref a0), (2, .ref a27), (3, .ref a38), (4, .int z4)] (k0 + 2) (n0 + 12) 1608 [.int r356] from ?_)
    refine xw_iload hf (pc := 1608) dL_law_1608 1 rfl ?_
    refine xw_icmp_eq hf (pc := 1610) dL_law_1610 (tgt := 1615) rfl ⟨fun c => ?_, fun c => ?_⟩
    · have h := h.1 c
      refine xw_iload hf (pc := 1615) dL_law_1615 1 rfl ?_
      refine xw_if_ne hf (pc := 1617) dL_law_1617 (c := r345 = 0) Iff.rfl (tgt := 1632) rfl ⟨fun c => ?_, fun c => ?_⟩
      · have h := h.1 c
        refine xw_aload_n hf (pc := 1620) dL_law_1620 rfl 5 rfl ?_
        refine xw_iconst hf (pc := 1621) dL_law_1621 (v := 0) (by decide) ?_
        refine xw_lald hf (pc := 1622) dL_law_1622 41 rfl h.1 ?_
        have h := h.2
        refine xw_iload hf (pc := 1623) dL_law_1623 0 rfl ?_
        refine xw_i2l hf (pc := 1625) dL_law_1625 ?_
        refine xw_lcmp hf (pc := 1626) dL_law_1626 ?_
        refine xw_if_eq hf (pc := 1627) dL_law_1627 (c := (w347 (0 : Int32).toNatClampNeg) = r350.toInt64) (lc_eq _ _) (tgt := 1632) rfl ⟨fun c => ?_, fun c => ?_⟩
        · have h := h.1 c
          refine xw_goto hf (pc := 1632) dL_law_1632 (tgt := 2681) rfl ?_
          refine xw_L [2, 3, 4, 5, 6] rfl ?_
          exact hK2681 _ _ _ _ hk _ _ _ _ _ _ _ h
        · have h := h.2 c
          refine xw_iconst hf (pc := 1630) dL_law_1630 (v := 0) (by decide) ?_
          exact h.elim
      · have h := h.2 c
        refine xw_goto hf (pc := 1632) dL_law_1632 (tgt := 2681) rfl ?_
        refine xw_L [2, 3, 4, 5, 6] rfl ?_
        exact hK2681 _ _ _ _ hk _ _ _ _ _ _ _ h
    · have h := h.2 c
      refine xw_iconst hf (pc := 1613) dL_law_1613 (v := 0) (by decide) ?_
      exact h.elim
set_option maxHeartbeats 4000000 in
set_option maxRecDepth 100000 in
theorem w_L_law_L1635 {x : Cx} {mc ms : Nat} (hf : fx x (rm_L_law) RL cL_law wsL_law) (hn : xn x = 8) {k0 n0 rc rs : Nat} (hk : k0 + rc ≤ (rm_L_law).cells ∧ n0 + rs ≤ (rm_L_law).slots) (a0 a1 a2 a3 a4 a5 a6 a7 a8 a9 a10 a11 a12 a13 a14 a15 a16 a17 a18 a19 a20 a21 a22 a23 a24 a25 a26 a27 a28 a29 a30 a31 a32 a33 a34 a35 a36 a37 a38 a39 ab : Nat) (z4 : Int32) (v0 : Int32) (v1 : Nat → Int64) (v6 : Nat → Int32) (v7 : Nat → Int32) (v20 : Int32) (v24 : Int32) (v25 : Nat → Int64) (v27 : Nat → Int32) (v46 : Nat) (v47 : Nat → Int32) (v2 : Int32) (v3 : Nat → Int64) (v4 : Nat → Int32) (v9 : Nat → Int32) (v11 : Int32) (v12 : Int32) (v13 : Nat → Int32) (v14 : Int32) (v15 : Nat → Int64) (v16 : Int32) (v17 : Nat → Int64) (v18 : Nat → Int32) (v28 : Nat → Int32) (v42 : Nat → Int32) (v43 : Nat → Int32) {K2681 : Nat → Nat → (Nat → Int32) → Int32 → (Nat → Int32) → Int32 → Int32 → Int32 → Int32 → (Nat → Int32) → (Nat → Int32) → Nat → Nat → (Nat → Int64) → Nat → Nat → (Nat → Int32) → Nat → Nat → (Nat → Int32) → (Nat → Int32) → (Nat → Int32) → (Nat → Int32) → (Nat → Int64) → ZL → Prop} (hst : (xl x).stackTraces = false) (hX : sX x ab v46 v47)
    (n : Nat) (v5 : Nat → Int32) (v8 : Int32) (v10 : Nat → Int32) (v19 : Int32) (v21 : Int32) (v22 : Int32) (v23 : Int32) (v26 : Nat → Int32) (v29 : Nat → Int32) (v30 : Nat) (v31 : Nat) (v32 : Nat → Int64) (v33 : Nat) (v34 : Nat) (v35 : Nat → Int32) (v36 : Nat) (v37 : Nat) (v38 : Nat → Int32) (v39 : Nat → Int32) (v40 : Nat → Int32) (v41 : Nat → Int32) (v44 : Nat → Int64) (v45 : ZL) (h : P_L_law_L1635 z4 v0 v1 v6 v7 v20 v24 v25 v27 v46 v47 K2681 n rc rs v5 v8 v10 v19 v21 v22 v23 v26 v29 v30 v31 v32 v33 v34 v35 v36 v37 v38 v39 v40 v41 v44 v45)
    (hK2681 : ∀ (k0 n0 rc rs : Nat), k0 + rc ≤ (rm_L_law).cells ∧ n0 + rs ≤ (rm_L_law).slots → ∀ (uv5 : Nat → Int32), ∀ (uv8 : Int32), ∀ (uv10 : Nat → Int32), ∀ (uv19 : Int32), ∀ (uv21 : Int32), ∀ (uv22 : Int32), ∀ (uv23 : Int32), ∀ (uv26 : Nat → Int32), ∀ (uv29 : Nat → Int32), ∀ (uv30 : Nat), ∀ (uv31 : Nat), ∀ (uv32 : Nat → Int64), ∀ (uv33 : Nat), ∀ (uv34 : Nat), ∀ (uv35 : Nat → Int32), ∀ (uv36 : Nat), ∀ (uv37 : Nat), ∀ (uv38 : Nat → Int32), ∀ (uv39 : Nat → Int32), ∀ (uv40 : Nat → Int32), ∀ (uv41 : Nat → Int32), ∀ (uv44 : Nat → Int64), ∀ (uv45 : ZL), K2681 rc rs uv5 uv8 uv10 uv19 uv21 uv22 uv23 uv26 uv29 uv30 uv31 uv32 uv33 uv34 uv35 uv36 uv37 uv38 uv39 uv40 uv41 uv44 uv45 → ww x (W_L_law (xg x) a0 a1 a2 a3 a4 a5 a6 a7 a8 a9 a10 a11 a12 a13 a14 a15 a16 a17 a18 a19 a20 a21 a22 a23 a24 a25 a26 a27 a28 a29 a30 a31 a32 a33 a34 a35 a36 a37 a38 a39 ab v0 v1 v2 v3 v4 uv5 v6 v7 uv8 v9 uv10 v11 v12 v13 v14 v15 v16 v17 v18 uv19 v20 uv21 uv22 uv23 v24 v25 uv26 v27 v28 uv29 uv30 uv31 uv32 uv33 uv34 uv35 uv36 uv37 uv38 uv39 uv40 uv41 v42 v43 uv44 v46 v47 ++ ZP (xg x) a39 uv45) [(0, .ref ab), (1, .ref a0), (2, .ref a27), (3, .ref a38), (4, .int z4)] k0 n0 2681 []) :
    ww x (W_L_law (xg x) a0 a1 a2 a3 a4 a5 a6 a7 a8 a9 a10 a11 a12 a13 a14 a15 a16 a17 a18 a19 a20 a21 a22 a23 a24 a25 a26 a27 a28 a29 a30 a31 a32 a33 a34 a35 a36 a37 a38 a39 ab v0 v1 v2 v3 v4 v5 v6 v7 v8 v9 v10 v11 v12 v13 v14 v15 v16 v17 v18 v19 v20 v21 v22 v23 v24 v25 v26 v27 v28 v29 v30 v31 v32 v33 v34 v35 v36 v37 v38 v39 v40 v41 v42 v43 v44 v46 v47 ++ ZP (xg x) a39 v45) [(0, .ref ab), (1, .ref a0), (2, .ref a27), (3, .ref a38), (4, .int z4)] k0 n0 1635 [] := by
  induction n generalizing k0 n0 rc rs v5 v8 v10 v19 v21 v22 v23 v26 v29 v30 v31 v32 v33 v34 v35 v36 v37 v38 v39 v40 v41 v44 v45 with
  | zero => exact h.elim
  | succ n ih =>
    unfold P_L_law_L1635 at h
    refine xw_aload_n hf (pc := 1635) dL_law_1635 rfl 1 rfl ?_
    refine xw_aload_n hf (pc := 1636) dL_law_1636 rfl 0 rfl ?_
    refine xw_iload hf (pc := 1637) dL_law_1637 4 rfl ?_
    refine xw_iconst hf (pc := 1639) dL_law_1639 (v := 1) (by decide) ?_
    refine xw_iadd hf (pc := 1640) dL_law_1640 ?_
    refine xw_sald hf hX dL_law_1641 h.1 ?_
    have h := h.2
    refine xw_i2l hf (pc := 1642) dL_law_1642 ?_
    refine xw_bipush hf (pc := 1643) dL_law_1643 (v := 32) (by decide) ?_
    refine xw_lshl hf (pc := 1645) dL_law_1645 ?_
    refine xw_aload_n hf (pc := 1646) dL_law_1646 rfl 0 rfl ?_
    refine xw_iload hf (pc := 1647) dL_law_1647 4 rfl ?_
    refine xw_iconst hf (pc := 1649) dL_law_1649 (v := 2) (by decide) ?_
    refine xw_iadd hf (pc := 1650) dL_law_1650 ?_
    refine xw_sald hf hX dL_law_1651 h.1 ?_
    have h := h.2
    refine xw_i2l hf (pc := 1652) dL_law_1652 ?_
    refine xw_ldc2 hf (pc := 1653) dL_law_1653 mw_L_law_0 ?_
    refine xw_land hf (pc := 1656) dL_law_1656 ?_
    refine xw_lor hf (pc := 1657) dL_law_1657 ?_
    refine xw_aload_n hf (pc := 1658) dL_law_1658 rfl 0 rfl ?_
    refine xw_iload hf (pc := 1659) dL_law_1659 4 rfl ?_
    refine xw_iconst hf (pc := 1661) dL_law_1661 (v := 3) (by decide) ?_
    refine xw_iadd hf (pc := 1662) dL_law_1662 ?_
    refine xw_sald hf hX dL_law_1663 h.1 ?_
    have h := h.2
    refine xw_aload_n hf (pc := 1664) dL_law_1664 rfl 3 rfl ?_
    obtain ⟨mc374, ms375, mc376, ms377, ⟨hb1, hb2⟩, h⟩ := h
    refine xw_callSW hf (pc := 1665) (nA := 4) (Xr := [(a4, .inr (7, [.ref a5, .int v2])), (a5, .inl (gJ (xg x), 60, .inr (.inl v3))), (a6, .inr (3, [.ref a7])), (a7, .inl (gI (xg x), 32, .inl v4)), (a14, .inr (3, [.ref a15])), (a15, .inl (gI (xg x), 32, .inl v9)), (a18, .inr (4, [.ref a19, .ref a21, .ref a23, .int v11, .int v12])), (a19, .inr (3, [.ref a20])), (a20, .inl (gI (xg x), 32, .inl v13)), (a21, .inr (7, [.ref a22, .int v14])), (a22, .inl (gJ (xg x), 60, .inr (.inl v15))), (a23, .inr (7, [.ref a24, .int v16])), (a24, .inl (gJ (xg x), 60, .inr (.inl v17))), (a25, .inr (3, [.ref a26])), (a26, .inl (gI (xg x), 32, .inl v18)), (a27, .inr (9, [.int v19, .ref a28, .int v20, .ref a29, .ref a30, .ref a31, .ref a32, .ref v30, .ref v33, .ref v36, .int v21, .int v22, .ref a33, .int v23, .ref a34, .ref a35, .ref a36, .ref a37, .int v24])), (a28, .inl (gJ (xg x), 60, .inr (.inl v25))), (a29, .inl (gI (xg x), 27, .inl v26)), (a30, .inl (gI (xg x), 27, .inl v27)), (a31, .inl (gI (xg x), 27, .inl v28)), (a32, .inl (gI (xg x), 27, .inl v29)), (v30, .inl (gJ (xg x), v31, .inr (.inl v32))), (v33, .inl (gI (xg x), v34, .inl v35)), (v36, .inl (gZ (xg x), v37, .inl v38)), (a33, .inl (gI (xg x), 12, .inl v39)), (a34, .inl (gI (xg x), 27, .inl v40)), (a35, .inl (gI (xg x), 27, .inl v41)), (a36, .inl (gI (xg x), 60, .inl v42)), (a37, .inl (gI (xg x), 3, .inl v43))]) (rest := []) (c_L_sell (xl x) (xg x) hst a0 a1 a2 a3 a8 a9 a10 a11 a12 a13 a16 a17 a38 a39 a18 a25 a4 a6 a14 v0 v1 v5 v6 v7 v8 v10 v44 v45 ((((v47 (z4 + 1).toNatClampNeg).toInt64) <<< ((32 : Int32).toInt64 &&& 63)) ||| (((v47 (z4 + 2).toNatClampNeg).toInt64) &&& 4294967295)) (v47 (z4 + 3).toNatClampNeg) h) gL_law_L_sell (by rfl) rfl (by decide +kernel) ⟨⟨(Nat.le_of_ble_eq_true rfl), (Nat.le_of_ble_eq_true rfl)⟩, (Nat.le_trans (show k0 + mc374 ≤ k0 + rc by omega) hk.1), (Nat.le_trans (show n0 + ms375 ≤ n0 + rs by omega) hk.2)⟩ (Nat.le_of_ble_eq_true rfl) (sb_zc (sb_of [0, 1, 2, 3, 8, 9, 10, 11, 12, 13, 16, 17, 41, 4, 5, 6, 7, 14, 15, 18, 19, 20, 21, 22, 23, 24, 25, 26, 27, 28, 29, 30, 31, 32, 33, 34, 35, 36, 37, 38, 39, 40] rfl rfl)) rfl dL_law_1665 (fun v X1 hp => ?_)
    obtain ⟨r368, w369, w370, w371, w372, w373, rfl, rfl, h⟩ := hp
    have hk : k0 + mc374 + mc376 ≤ (rm_L_law).cells ∧ n0 + ms375 + ms377 ≤ (rm_L_law).slots := ⟨Nat.le_trans (show k0 + mc374 + mc376 ≤ k0 + rc by omega) hk.1, Nat.le_trans (show n0 + ms375 + ms377 ≤ n0 + rs by omega) hk.2⟩
    refine xw_X (sb_cz (sb_of [0, 1, 2, 3, 13, 14, 15, 16, 4, 5, 6, 7, 8, 9, 17, 18, 10, 11, 19, 20, 21, 22, 23, 24, 25, 26, 27, 28, 29, 30, 31, 32, 33, 34, 35, 36, 37, 38, 39, 40, 41, 12] rfl rfl)) (show ww x (W_L_law (xg x) a0 a1 a2 a3 a4 a5 a6 a7 a8 a9 a10 a11 a12 a13 a14 a15 a16 a17 a18 a19 a20 a21 a22 a23 a24 a25 a26 a27 a28 a29 a30 a31 a32 a33 a34 a35 a36 a37 a38 a39 ab v0 v1 v2 v3 v4 w369 v6 v7 w370 v9 w371 v11 v12 v13 v14 v15 v16 v17 v18 v19 v20 v21 v22 v23 v24 v25 v26 v27 v28 v29 v30 v31 v32 v33 v34 v35 v36 v37 v38 v39 v40 v41 v42 v43 w372 v46 v47 ++ ZP (xg x) a39 w373) [(0, .ref ab), (1, .ref a0), (2, .ref a27), (3, .ref a38), (4, .int z4)] (k0 + mc374) (n0 + ms375) 1668 [.int r368] from ?_)
    refine xw_istore hf (pc := 1668) dL_law_1668 [(5, .int r368), (0, .ref ab), (1, .ref a0), (2, .ref a27), (3, .ref a38), (4, .int z4)] hn (by decide) rfl ?_
    refine xw_aload_n hf (pc := 1670) dL_law_1670 rfl 3 rfl ?_
    refine xw_aload_n hf (pc := 1671) dL_law_1671 rfl 1 rfl ?_
    refine xw_iload hf (pc := 1672) dL_law_1672 5 rfl ?_
    refine xw_iconst hf (pc := 1674) dL_law_1674 (v := 1) (by decide) ?_
    refine xw_iadd hf (pc := 1675) dL_law_1675 ?_
    refine xw_sald hf hX dL_law_1676 h.1 ?_
    have h := h.2
    refine xw_i2l hf (pc := 1677) dL_law_1677 ?_
    refine xw_bipush hf (pc := 1678) dL_law_1678 (v := 32) (by decide) ?_
    refine xw_lshl hf (pc := 1680) dL_law_1680 ?_
    refine xw_aload_n hf (pc := 1681) dL_law_1681 rfl 1 rfl ?_
    refine xw_iload hf (pc := 1682) dL_law_1682 5 rfl ?_
    refine xw_iconst hf (pc := 1684) dL_law_1684 (v := 2) (by decide) ?_
    refine xw_iadd hf (pc := 1685) dL_law_1685 ?_
    refine xw_sald hf hX dL_law_1686 h.1 ?_
    have h := h.2
    refine xw_i2l hf (pc := 1687) dL_law_1687 ?_
    refine xw_ldc2 hf (pc := 1688) dL_law_1688 mw_L_law_0 ?_
    refine xw_land hf (pc := 1691) dL_law_1691 ?_
    refine xw_lor hf (pc := 1692) dL_law_1692 ?_
    refine xw_aload_n hf (pc := 1693) dL_law_1693 rfl 1 rfl ?_
    refine xw_iload hf (pc := 1694) dL_law_1694 5 rfl ?_
    refine xw_iconst hf (pc := 1696) dL_law_1696 (v := 3) (by decide) ?_
    refine xw_iadd hf (pc := 1697) dL_law_1697 ?_
    refine xw_sald hf hX dL_law_1698 h.1 ?_
    have h := h.2
    obtain ⟨mc397, ms398, mc399, ms400, ⟨hb1, hb2⟩, h⟩ := h
    refine xw_callV hf (pc := 1699) (nA := 2) (Xr := [(a0, .inr (8, [.ref a1, .ref a8, .ref a13, .ref a18, .ref a25])), (a1, .inr (2, [.ref a2, .ref a4, .ref a6])), (a2, .inr (7, [.ref a3, .int v0])), (a3, .inl (gJ (xg x), 60, .inr (.inl v1))), (a4, .inr (7, [.ref a5, .int v2])), (a5, .inl (gJ (xg x), 60, .inr (.inl v3))), (a6, .inr (3, [.ref a7])), (a7, .inl (gI (xg x), 32, .inl v4)), (a8, .inr (6, [.ref a9, .ref a11, .ref a12])), (a9, .inr (3, [.ref a10])), (a10, .inl (gI (xg x), 32, .inl w369)), (a11, .inl (gI (xg x), 32, .inl v6)), (a12, .inl (gI (xg x), 32, .inl v7)), (a13, .inr (1, [.ref a39, .ref a14, .ref a16, .int w370])), (a14, .inr (3, [.ref a15])), (a15, .inl (gI (xg x), 32, .inl v9)), (a16, .inr (3, [.ref a17])), (a17, .inl (gI (xg x), 32, .inl w371)), (a18, .inr (4, [.ref a19, .ref a21, .ref a23, .int v11, .int v12])), (a19, .inr (3, [.ref a20])), (a20, .inl (gI (xg x), 32, .inl v13)), (a21, .inr (7, [.ref a22, .int v14])), (a22, .inl (gJ (xg x), 60, .inr (.inl v15))), (a23, .inr (7, [.ref a24, .int v16])), (a24, .inl (gJ (xg x), 60, .inr (.inl v17))), (a25, .inr (3, [.ref a26])), (a26, .inl (gI (xg x), 32, .inl v18)), (a31, .inl (gI (xg x), 27, .inl v28)), (a36, .inl (gI (xg x), 60, .inl v42)), (a37, .inl (gI (xg x), 3, .inl v43)), (a38, .inl (gJ (xg x), 1, .inr (.inl w372)))] ++ ZP (xg x) a39 w373) (rest := []) (T := TX9) (c_X9_sell (xl x) (xg x) a27 a28 a29 a30 a32 a33 a34 a35 a31 a36 a37 v19 v20 v21 v22 v23 v24 v25 v26 v27 v29 v30 v31 v32 v33 v34 v35 v36 v37 v38 v39 v40 v41 ((((v47 (z4 + 1).toNatClampNeg).toInt64) <<< ((32 : Int32).toInt64 &&& 63)) ||| (((v47 (z4 + 2).toNatClampNeg).toInt64) &&& 4294967295)) (v47 (z4 + 3).toNatClampNeg) h) gL_law_X9_sell (by rfl) rfl rfl (by decide +kernel) ⟨⟨(Nat.le_of_ble_eq_true rfl), (Nat.le_of_ble_eq_true rfl)⟩, (Nat.le_trans (show k0 + mc374 + mc397 ≤ k0 + mc374 + mc376 by omega) hk.1), (Nat.le_trans (show n0 + ms375 + ms398 ≤ n0 + ms375 + ms377 by omega) hk.2)⟩ (Nat.le_of_ble_eq_true rfl) rfl rfl (sb_zr (sb_of [27, 28, 29, 30, 32, 33, 34, 35, 36, 37, 38, 0, 1, 2, 3, 4, 5, 6, 7, 8, 9, 10, 11, 12, 13, 14, 15, 16, 17, 18, 19, 20, 21, 22, 23, 24, 25, 26, 31, 39, 40, 41] rfl rfl)) rfl dL_law_1699 (fun v X1 hp => ?_)
    obtain ⟨r378, w379, w380, w381, w382, w383, w384, w385, w386, w387, w388, w389, w390, w391, w392, w393, w394, w395, w396, rfl, rfl, h⟩ := hp
    have hk : k0 + mc374 + mc397 + mc399 ≤ (rm_L_law).cells ∧ n0 + ms375 + ms398 + ms400 ≤ (rm_L_law).slots := ⟨Nat.le_trans (show k0 + mc374 + mc397 + mc399 ≤ k0 + mc374 + mc376 by omega) hk.1, Nat.le_trans (show n0 + ms375 + ms398 + ms400 ≤ n0 + ms375 + ms377 by omega) hk.2⟩
    refine xw_X (sb_rz (sb_of [11, 12, 13, 14, 15, 16, 17, 18, 19, 20, 21, 22, 23, 24, 25, 26, 27, 28, 29, 30, 31, 32, 33, 34, 35, 36, 37, 0, 1, 2, 3, 38, 4, 5, 6, 7, 8, 9, 10, 39, 40, 41] rfl rfl)) (show ww x (W_L_law (xg x) a0 a1 a2 a3 a4 a5 a6 a7 a8 a9 a10 a11 a12 a13 a14 a15 a16 a17 a18 a19 a20 a21 a22 a23 a24 a25 a26 a27 a28 a29 a30 a31 a32 a33 a34 a35 a36 a37 a38 a39 ab v0 v1 v2 v3 v4 w369 v6 v7 w370 v9 w371 v11 v12 v13 v14 v15 v16 v17 v18 w379 v20 w380 w381 w382 v24 v25 w383 v27 v28 w384 w385 w386 w387 w388 w389 w390 w391 w392 w393 w394 w395 w396 v42 v43 w372 v46 v47 ++ ZP (xg x) a39 w373) [(5, .int r368), (0, .ref ab), (1, .ref a0), (2, .ref a27), (3, .ref a38), (4, .int z4)] (k0 + mc374 + mc397) (n0 + ms375 + ms398) 1702 [.int r378] from ?_)
    refine xw_istore hf (pc := 1702) dL_law_1702 [(6, .int r378), (5, .int r368), (0, .ref ab), (1, .ref a0), (2, .ref a27), (3, .ref a38), (4, .int z4)] hn (by decide) rfl ?_
    refine xw_aload_n hf (pc := 1704) dL_law_1704 rfl 4 rfl ?_
    refine xw_callV hf (pc := 1705) (nA := 0) (Xr := [(a0, .inr (8, [.ref a1, .ref a8, .ref a13, .ref a18, .ref a25])), (a1, .inr (2, [.ref a2, .ref a4, .ref a6])), (a2, .inr (7, [.ref a3, .int v0])), (a3, .inl (gJ (xg x), 60, .inr (.inl v1))), (a4, .inr (7, [.ref a5, .int v2])), (a5, .inl (gJ (xg x), 60, .inr (.inl v3))), (a6, .inr (3, [.ref a7])), (a7, .inl (gI (xg x), 32, .inl v4)), (a8, .inr (6, [.ref a9, .ref a11, .ref a12])), (a9, .inr (3, [.ref a10])), (a10, .inl (gI (xg x), 32, .inl w369)), (a11, .inl (gI (xg x), 32, .inl v6)), (a12, .inl (gI (xg x), 32, .inl v7)), (a13, .inr (1, [.ref a39, .ref a14, .ref a16, .int w370])), (a14, .inr (3, [.ref a15])), (a15, .inl (gI (xg x), 32, .inl v9)), (a16, .inr (3, [.ref a17])), (a17, .inl (gI (xg x), 32, .inl w371)), (a18, .inr (4, [.ref a19, .ref a21, .ref a23, .int v11, .int v12])), (a19, .inr (3, [.ref a20])), (a20, .inl (gI (xg x), 32, .inl v13)), (a21, .inr (7, [.ref a22, .int v14])), (a22, .inl (gJ (xg x), 60, .inr (.inl v15))), (a23, .inr (7, [.ref a24, .int v16])), (a24, .inl (gJ (xg x), 60, .inr (.inl v17))), (a25, .inr (3, [.ref a26])), (a26, .inl (gI (xg x), 32, .inl v18)), (a28, .inl (gJ (xg x), 60, .inr (.inl v25))), (a29, .inl (gI (xg x), 27, .inl w383)), (a30, .inl (gI (xg x), 27, .inl v27)), (a31, .inl (gI (xg x), 27, .inl v28)), (a32, .inl (gI (xg x), 27, .inl w384)), (w385, .inl (gJ (xg x), w386, .inr (.inl w387))), (w388, .inl (gI (xg x), w389, .inl w390)), (w391, .inl (gZ (xg x), w392, .inl w393)), (a33, .inl (gI (xg x), 12, .inl w394)), (a34, .inl (gI (xg x), 27, .inl w395)), (a35, .inl (gI (xg x), 27, .inl w396)), (a36, .inl (gI (xg x), 60, .inl v42)), (a37, .inl (gI (xg x), 3, .inl v43)), (a38, .inl (gJ (xg x), 1, .inr (.inl w372)))] ++ ZP (xg x) a39 w373) (rest := []) (T := TX9) (c_X9_thrown (xl x) (xg x) a27 a28 a29 a30 a31 a32 w385 w388 w391 a33 a34 a35 a36 a37 w379 v20 w380 w381 w382 v24 h) gL_law_X9_thrown (by rfl) rfl rfl (by decide +kernel) ⟨⟨(Nat.le_of_ble_eq_true rfl), (Nat.le_of_ble_eq_true rfl)⟩, (Nat.le_trans (Nat.le_add_right _ _) hk.1), (Nat.le_trans (Nat.le_add_right _ _) hk.2)⟩ (Nat.le_of_ble_eq_true rfl) rfl rfl (sb_zr (sb_of [27, 0, 1, 2, 3, 4, 5, 6, 7, 8, 9, 10, 11, 12, 13, 14, 15, 16, 17, 18, 19, 20, 21, 22, 23, 24, 25, 26, 28, 29, 30, 31, 32, 33, 34, 35, 36, 37, 38, 39, 40, 41] rfl rfl)) rfl dL_law_1705 (fun v X1 hp => ?_)
    obtain ⟨r401, rfl, rfl, h⟩ := hp
    refine xw_X (sb_rz (sb_of [1, 2, 3, 4, 5, 6, 7, 8, 9, 10, 11, 12, 13, 14, 15, 16, 17, 18, 19, 20, 21, 22, 23, 24, 25, 26, 27, 0, 28, 29, 30, 31, 32, 33, 34, 35, 36, 37, 38, 39, 40, 41] rfl rfl)) (show ww x (W_L_law (xg x) a0 a1 a2 a3 a4 a5 a6 a7 a8 a9 a10 a11 a12 a13 a14 a15 a16 a17 a18 a19 a20 a21 a22 a23 a24 a25 a26 a27 a28 a29 a30 a31 a32 a33 a34 a35 a36 a37 a38 a39 ab v0 v1 v2 v3 v4 w369 v6 v7 w370 v9 w371 v11 v12 v13 v14 v15 v16 v17 v18 w379 v20 w380 w381 w382 v24 v25 w383 v27 v28 w384 w385 w386 w387 w388 w389 w390 w391 w392 w393 w394 w395 w396 v42 v43 w372 v46 v47 ++ ZP (xg x) a39 w373) [(6, .int r378), (5, .int r368), (0, .ref ab), (1, .ref a0), (2, .ref a27), (3, .ref a38), (4, .int z4)] (k0 + mc374 + mc397) (n0 + ms375 + ms398) 1708 [.int r401] from ?_)
    refine xw_iload hf (pc := 1708) dL_law_1708 1 rfl ?_
    refine xw_icmp_eq hf (pc := 1710) dL_law_1710 (tgt := 1715) rfl ⟨fun c => ?_, fun c => ?_⟩
    · have h := h.1 c
      refine xw_iload hf (pc := 1715) dL_law_1715 1 rfl ?_
      refine xw_if_ne hf (pc := 1717) dL_law_1717 (c := r368 = 0) Iff.rfl (tgt := 1732) rfl ⟨fun c => ?_, fun c => ?_⟩
      · have h := h.1 c
        refine xw_aload_n hf (pc := 1720) dL_law_1720 rfl 5 rfl ?_
        refine xw_iconst hf (pc := 1721) dL_law_1721 (v := 0) (by decide) ?_
        refine xw_lald hf (pc := 1722) dL_law_1722 41 rfl h.1 ?_
        have h := h.2
        refine xw_iload hf (pc := 1723) dL_law_1723 0 rfl ?_
        refine xw_i2l hf (pc := 1725) dL_law_1725 ?_
        refine xw_lcmp hf (pc := 1726) dL_law_1726 ?_
        refine xw_if_eq hf (pc := 1727) dL_law_1727 (c := (w372 (0 : Int32).toNatClampNeg) = r378.toInt64) (lc_eq _ _) (tgt := 1732) rfl ⟨fun c => ?_, fun c => ?_⟩
        · have h := h.1 c
          refine xw_goto hf (pc := 1732) dL_law_1732 (tgt := 2681) rfl ?_
          refine xw_L [2, 3, 4, 5, 6] rfl ?_
          exact hK2681 _ _ _ _ hk _ _ _ _ _ _ _ _ _ _ _ _ _ _ _ _ _ _ _ _ _ _ _ h
        · have h := h.2 c
          refine xw_iconst hf (pc := 1730) dL_law_1730 (v := 0) (by decide) ?_
          exact h.elim
      · have h := h.2 c
        refine xw_goto hf (pc := 1732) dL_law_1732 (tgt := 2681) rfl ?_
        refine xw_L [2, 3, 4, 5, 6] rfl ?_
        exact hK2681 _ _ _ _ hk _ _ _ _ _ _ _ _ _ _ _ _ _ _ _ _ _ _ _ _ _ _ _ h
    · have h := h.2 c
      refine xw_iconst hf (pc := 1713) dL_law_1713 (v := 0) (by decide) ?_
      exact h.elim
set_option maxHeartbeats 4000000 in
set_option maxRecDepth 100000 in
theorem w_L_law_L1735 {x : Cx} {mc ms : Nat} (hf : fx x (rm_L_law) RL cL_law wsL_law) (hn : xn x = 8) {k0 n0 rc rs : Nat} (hk : k0 + rc ≤ (rm_L_law).cells ∧ n0 + rs ≤ (rm_L_law).slots) (a0 a1 a2 a3 a4 a5 a6 a7 a8 a9 a10 a11 a12 a13 a14 a15 a16 a17 a18 a19 a20 a21 a22 a23 a24 a25 a26 a27 a28 a29 a30 a31 a32 a33 a34 a35 a36 a37 a38 a39 ab : Nat) (z4 : Int32) (v0 : Int32) (v1 : Nat → Int64) (v6 : Nat → Int32) (v7 : Nat → Int32) (v20 : Int32) (v21 : Int32) (v22 : Int32) (v24 : Int32) (v25 : Nat → Int64) (v26 : Nat → Int32) (v27 : Nat → Int32) (v46 : Nat) (v47 : Nat → Int32) (v2 : Int32) (v3 : Nat → Int64) (v4 : Nat → Int32) (v8 : Int32) (v9 : Nat → Int32) (v10 : Nat → Int32) (v11 : Int32) (v12 : Int32) (v13 : Nat → Int32) (v14 : Int32) (v15 : Nat → Int64) (v16 : Int32) (v17 : Nat → Int64) (v18 : Nat → Int32) (v28 : Nat → Int32) (v29 : Nat → Int32) (v30 : Nat) (v31 : Nat) (v32 : Nat → Int64) (v33 : Nat) (v34 : Nat) (v35 : Nat → Int32) (v36 : Nat) (v37 : Nat) (v38 : Nat → Int32) (v42 : Nat → Int32) (v43 : Nat → Int32) (v45 : ZL) {K2681 : Nat → Nat → (Nat → Int32) → Int32 → Int32 → (Nat → Int32) → (Nat → Int32) → (Nat → Int32) → (Nat → Int64) → Prop} (hst : (xl x).stackTraces = false) (hX : sX x ab v46 v47)
    (n : Nat) (v5 : Nat → Int32) (v19 : Int32) (v23 : Int32) (v39 : Nat → Int32) (v40 : Nat → Int32) (v41 : Nat → Int32) (v44 : Nat → Int64) (h : P_L_law_L1735 z4 v0 v1 v6 v7 v20 v21 v22 v24 v25 v26 v27 v46 v47 K2681 n rc rs v5 v19 v23 v39 v40 v41 v44)
    (hK2681 : ∀ (k0 n0 rc rs : Nat), k0 + rc ≤ (rm_L_law).cells ∧ n0 + rs ≤ (rm_L_law).slots → ∀ (uv5 : Nat → Int32), ∀ (uv19 : Int32), ∀ (uv23 : Int32), ∀ (uv39 : Nat → Int32), ∀ (uv40 : Nat → Int32), ∀ (uv41 : Nat → Int32), ∀ (uv44 : Nat → Int64), K2681 rc rs uv5 uv19 uv23 uv39 uv40 uv41 uv44 → ww x (W_L_law (xg x) a0 a1 a2 a3 a4 a5 a6 a7 a8 a9 a10 a11 a12 a13 a14 a15 a16 a17 a18 a19 a20 a21 a22 a23 a24 a25 a26 a27 a28 a29 a30 a31 a32 a33 a34 a35 a36 a37 a38 a39 ab v0 v1 v2 v3 v4 uv5 v6 v7 v8 v9 v10 v11 v12 v13 v14 v15 v16 v17 v18 uv19 v20 v21 v22 uv23 v24 v25 v26 v27 v28 v29 v30 v31 v32 v33 v34 v35 v36 v37 v38 uv39 uv40 uv41 v42 v43 uv44 v46 v47 ++ ZP (xg x) a39 v45) [(0, .ref ab), (1, .ref a0), (2, .ref a27), (3, .ref a38), (4, .int z4)] k0 n0 2681 []) :
    ww x (W_L_law (xg x) a0 a1 a2 a3 a4 a5 a6 a7 a8 a9 a10 a11 a12 a13 a14 a15 a16 a17 a18 a19 a20 a21 a22 a23 a24 a25 a26 a27 a28 a29 a30 a31 a32 a33 a34 a35 a36 a37 a38 a39 ab v0 v1 v2 v3 v4 v5 v6 v7 v8 v9 v10 v11 v12 v13 v14 v15 v16 v17 v18 v19 v20 v21 v22 v23 v24 v25 v26 v27 v28 v29 v30 v31 v32 v33 v34 v35 v36 v37 v38 v39 v40 v41 v42 v43 v44 v46 v47 ++ ZP (xg x) a39 v45) [(0, .ref ab), (1, .ref a0), (2, .ref a27), (3, .ref a38), (4, .int z4)] k0 n0 1735 [] := by
  induction n generalizing k0 n0 rc rs v5 v19 v23 v39 v40 v41 v44 with
  | zero => exact h.elim
  | succ n ih =>
    unfold P_L_law_L1735 at h
    refine xw_aload_n hf (pc := 1735) dL_law_1735 rfl 1 rfl ?_
    refine xw_aload_n hf (pc := 1736) dL_law_1736 rfl 0 rfl ?_
    refine xw_iload hf (pc := 1737) dL_law_1737 4 rfl ?_
    refine xw_iconst hf (pc := 1739) dL_law_1739 (v := 1) (by decide) ?_
    refine xw_iadd hf (pc := 1740) dL_law_1740 ?_
    refine xw_sald hf hX dL_law_1741 h.1 ?_
    have h := h.2
    refine xw_aload_n hf (pc := 1742) dL_law_1742 rfl 3 rfl ?_
    obtain ⟨mc432, ms433, ⟨hb1, hb2⟩, h⟩ := h
    refine xw_callSW hf (pc := 1743) (nA := 3) (Xr := [(a4, .inr (7, [.ref a5, .int v2])), (a5, .inl (gJ (xg x), 60, .inr (.inl v3))), (a6, .inr (3, [.ref a7])), (a7, .inl (gI (xg x), 32, .inl v4)), (a13, .inr (1, [.ref a39, .ref a14, .ref a16, .int v8])), (a14, .inr (3, [.ref a15])), (a15, .inl (gI (xg x), 32, .inl v9)), (a16, .inr (3, [.ref a17])), (a17, .inl (gI (xg x), 32, .inl v10)), (a18, .inr (4, [.ref a19, .ref a21, .ref a23, .int v11, .int v12])), (a19, .inr (3, [.ref a20])), (a20, .inl (gI (xg x), 32, .inl v13)), (a21, .inr (7, [.ref a22, .int v14])), (a22, .inl (gJ (xg x), 60, .inr (.inl v15))), (a23, .inr (7, [.ref a24, .int v16])), (a24, .inl (gJ (xg x), 60, .inr (.inl v17))), (a25, .inr (3, [.ref a26])), (a26, .inl (gI (xg x), 32, .inl v18)), (a27, .inr (9, [.int v19, .ref a28, .int v20, .ref a29, .ref a30, .ref a31, .ref a32, .ref v30, .ref v33, .ref v36, .int v21, .int v22, .ref a33, .int v23, .ref a34, .ref a35, .ref a36, .ref a37, .int v24])), (a28, .inl (gJ (xg x), 60, .inr (.inl v25))), (a29, .inl (gI (xg x), 27, .inl v26)), (a30, .inl (gI (xg x), 27, .inl v27)), (a31, .inl (gI (xg x), 27, .inl v28)), (a32, .inl (gI (xg x), 27, .inl v29)), (v30, .inl (gJ (xg x), v31, .inr (.inl v32))), (v33, .inl (gI (xg x), v34, .inl v35)), (v36, .inl (gZ (xg x), v37, .inl v38)), (a33, .inl (gI (xg x), 12, .inl v39)), (a34, .inl (gI (xg x), 27, .inl v40)), (a35, .inl (gI (xg x), 27, .inl v41)), (a36, .inl (gI (xg x), 60, .inl v42)), (a37, .inl (gI (xg x), 3, .inl v43))] ++ ZP (xg x) a39 v45) (rest := []) (c_L_affordableWords (xl x) (xg x) hst a0 a1 a2 a3 a8 a9 a10 a11 a12 a38 a13 a18 a25 a4 a6 v0 v1 v5 v6 v7 v44 (v47 (z4 + 1).toNatClampNeg) h) gL_law_L_affordableWords (by rfl) rfl (by decide +kernel) ⟨⟨(Nat.le_of_ble_eq_true rfl), (Nat.le_of_ble_eq_true rfl)⟩, (Nat.le_trans (show k0 + 1 ≤ k0 + rc by omega) hk.1), (Nat.le_trans (show n0 + 6 ≤ n0 + rs by omega) hk.2)⟩ (Nat.le_of_ble_eq_true rfl) (sb_zr (sb_of [0, 1, 2, 3, 8, 9, 10, 11, 12, 41, 4, 5, 6, 7, 13, 14, 15, 16, 17, 18, 19, 20, 21, 22, 23, 24, 25, 26, 27, 28, 29, 30, 31, 32, 33, 34, 35, 36, 37, 38, 39, 40] rfl rfl)) rfl dL_law_1743 (fun v X1 hp => ?_)
    obtain ⟨r429, w430, w431, rfl, rfl, h⟩ := hp
    have hk : k0 + 1 + mc432 ≤ (rm_L_law).cells ∧ n0 + 6 + ms433 ≤ (rm_L_law).slots := ⟨Nat.le_trans (show k0 + 1 + mc432 ≤ k0 + rc by omega) hk.1, Nat.le_trans (show n0 + 6 + ms433 ≤ n0 + rs by omega) hk.2⟩
    refine xw_X (sb_rz (sb_of [0, 1, 2, 3, 10, 11, 12, 13, 4, 5, 6, 7, 8, 14, 15, 16, 17, 18, 19, 20, 21, 22, 23, 24, 25, 26, 27, 28, 29, 30, 31, 32, 33, 34, 35, 36, 37, 38, 39, 40, 41, 9] rfl rfl)) (show ww x (W_L_law (xg x) a0 a1 a2 a3 a4 a5 a6 a7 a8 a9 a10 a11 a12 a13 a14 a15 a16 a17 a18 a19 a20 a21 a22 a23 a24 a25 a26 a27 a28 a29 a30 a31 a32 a33 a34 a35 a36 a37 a38 a39 ab v0 v1 v2 v3 v4 w430 v6 v7 v8 v9 v10 v11 v12 v13 v14 v15 v16 v17 v18 v19 v20 v21 v22 v23 v24 v25 v26 v27 v28 v29 v30 v31 v32 v33 v34 v35 v36 v37 v38 v39 v40 v41 v42 v43 w431 v46 v47 ++ ZP (xg x) a39 v45) [(0, .ref ab), (1, .ref a0), (2, .ref a27), (3, .ref a38), (4, .int z4)] (k0 + 1) (n0 + 6) 1746 [.int r429] from ?_)
    refine xw_istore hf (pc := 1746) dL_law_1746 [(5, .int r429), (0, .ref ab), (1, .ref a0), (2, .ref a27), (3, .ref a38), (4, .int z4)] hn (by decide) rfl ?_
    refine xw_aload_n hf (pc := 1748) dL_law_1748 rfl 3 rfl ?_
    refine xw_aload_n hf (pc := 1749) dL_law_1749 rfl 1 rfl ?_
    refine xw_iload hf (pc := 1750) dL_law_1750 5 rfl ?_
    refine xw_iconst hf (pc := 1752) dL_law_1752 (v := 1) (by decide) ?_
    refine xw_iadd hf (pc := 1753) dL_law_1753 ?_
    refine xw_sald hf hX dL_law_1754 h.1 ?_
    have h := h.2
    refine xw_callV hf (pc := 1755) (nA := 1) (Xr := [(a0, .inr (8, [.ref a1, .ref a8, .ref a13, .ref a18, .ref a25])), (a1, .inr (2, [.ref a2, .ref a4, .ref a6])), (a2, .inr (7, [.ref a3, .int v0])), (a3, .inl (gJ (xg x), 60, .inr (.inl v1))), (a4, .inr (7, [.ref a5, .int v2])), (a5, .inl (gJ (xg x), 60, .inr (.inl v3))), (a6, .inr (3, [.ref a7])), (a7, .inl (gI (xg x), 32, .inl v4)), (a8, .inr (6, [.ref a9, .ref a11, .ref a12])), (a9, .inr (3, [.ref a10])), (a10, .inl (gI (xg x), 32, .inl w430)), (a11, .inl (gI (xg x), 32, .inl v6)), (a12, .inl (gI (xg x), 32, .inl v7)), (a13, .inr (1, [.ref a39, .ref a14, .ref a16, .int v8])), (a14, .inr (3, [.ref a15])), (a15, .inl (gI (xg x), 32, .inl v9)), (a16, .inr (3, [.ref a17])), (a17, .inl (gI (xg x), 32, .inl v10)), (a18, .inr (4, [.ref a19, .ref a21, .ref a23, .int v11, .int v12])), (a19, .inr (3, [.ref a20])), (a20, .inl (gI (xg x), 32, .inl v13)), (a21, .inr (7, [.ref a22, .int v14])), (a22, .inl (gJ (xg x), 60, .inr (.inl v15))), (a23, .inr (7, [.ref a24, .int v16])), (a24, .inl (gJ (xg x), 60, .inr (.inl v17))), (a25, .inr (3, [.ref a26])), (a26, .inl (gI (xg x), 32, .inl v18)), (a31, .inl (gI (xg x), 27, .inl v28)), (a32, .inl (gI (xg x), 27, .inl v29)), (v30, .inl (gJ (xg x), v31, .inr (.inl v32))), (v33, .inl (gI (xg x), v34, .inl v35)), (v36, .inl (gZ (xg x), v37, .inl v38)), (a36, .inl (gI (xg x), 60, .inl v42)), (a37, .inl (gI (xg x), 3, .inl v43)), (a38, .inl (gJ (xg x), 1, .inr (.inl w431)))] ++ ZP (xg x) a39 v45) (rest := []) (T := TX9) (c_X9_affordableWords (xl x) (xg x) a27 a28 a29 a30 a33 a34 a35 a31 a32 v30 v33 v36 a36 a37 v19 v20 v21 v22 v23 v24 v25 v26 v27 v39 v40 v41 (v47 (z4 + 1).toNatClampNeg) h) gL_law_X9_affordableWords (by rfl) rfl rfl (by decide +kernel) ⟨⟨(Nat.le_of_ble_eq_true rfl), (Nat.le_of_ble_eq_true rfl)⟩, (Nat.le_trans (Nat.le_add_right _ _) hk.1), (Nat.le_trans (Nat.le_add_right _ _) hk.2)⟩ (Nat.le_of_ble_eq_true rfl) rfl rfl (sb_zr (sb_of [27, 28, 29, 30, 36, 37, 38, 0, 1, 2, 3, 4, 5, 6, 7, 8, 9, 10, 11, 12, 13, 14, 15, 16, 17, 18, 19, 20, 21, 22, 23, 24, 25, 26, 31, 32, 33, 34, 35, 39, 40, 41] rfl rfl)) rfl dL_law_1755 (fun v X1 hp => ?_)
    obtain ⟨r434, w435, w436, w437, w438, w439, rfl, rfl, h⟩ := hp
    refine xw_X (sb_rz (sb_of [7, 8, 9, 10, 11, 12, 13, 14, 15, 16, 17, 18, 19, 20, 21, 22, 23, 24, 25, 26, 27, 28, 29, 30, 31, 32, 33, 0, 1, 2, 3, 34, 35, 36, 37, 38, 4, 5, 6, 39, 40, 41] rfl rfl)) (show ww x (W_L_law (xg x) a0 a1 a2 a3 a4 a5 a6 a7 a8 a9 a10 a11 a12 a13 a14 a15 a16 a17 a18 a19 a20 a21 a22 a23 a24 a25 a26 a27 a28 a29 a30 a31 a32 a33 a34 a35 a36 a37 a38 a39 ab v0 v1 v2 v3 v4 w430 v6 v7 v8 v9 v10 v11 v12 v13 v14 v15 v16 v17 v18 w435 v20 v21 v22 w436 v24 v25 v26 v27 v28 v29 v30 v31 v32 v33 v34 v35 v36 v37 v38 w437 w438 w439 v42 v43 w431 v46 v47 ++ ZP (xg x) a39 v45) [(5, .int r429), (0, .ref ab), (1, .ref a0), (2, .ref a27), (3, .ref a38), (4, .int z4)] (k0 + 1) (n0 + 6) 1758 [.int r434] from ?_)
    refine xw_istore hf (pc := 1758) dL_law_1758 [(6, .int r434), (5, .int r429), (0, .ref ab), (1, .ref a0), (2, .ref a27), (3, .ref a38), (4, .int z4)] hn (by decide) rfl ?_
    refine xw_aload_n hf (pc := 1760) dL_law_1760 rfl 4 rfl ?_
    refine xw_callV hf (pc := 1761) (nA := 0) (Xr := [(a0, .inr (8, [.ref a1, .ref a8, .ref a13, .ref a18, .ref a25])), (a1, .inr (2, [.ref a2, .ref a4, .ref a6])), (a2, .inr (7, [.ref a3, .int v0])), (a3, .inl (gJ (xg x), 60, .inr (.inl v1))), (a4, .inr (7, [.ref a5, .int v2])), (a5, .inl (gJ (xg x), 60, .inr (.inl v3))), (a6, .inr (3, [.ref a7])), (a7, .inl (gI (xg x), 32, .inl v4)), (a8, .inr (6, [.ref a9, .ref a11, .ref a12])), (a9, .inr (3, [.ref a10])), (a10, .inl (gI (xg x), 32, .inl w430)), (a11, .inl (gI (xg x), 32, .inl v6)), (a12, .inl (gI (xg x), 32, .inl v7)), (a13, .inr (1, [.ref a39, .ref a14, .ref a16, .int v8])), (a14, .inr (3, [.ref a15])), (a15, .inl (gI (xg x), 32, .inl v9)), (a16, .inr (3, [.ref a17])), (a17, .inl (gI (xg x), 32, .inl v10)), (a18, .inr (4, [.ref a19, .ref a21, .ref a23, .int v11, .int v12])), (a19, .inr (3, [.ref a20])), (a20, .inl (gI (xg x), 32, .inl v13)), (a21, .inr (7, [.ref a22, .int v14])), (a22, .inl (gJ (xg x), 60, .inr (.inl v15))), (a23, .inr (7, [.ref a24, .int v16])), (a24, .inl (gJ (xg x), 60, .inr (.inl v17))), (a25, .inr (3, [.ref a26])), (a26, .inl (gI (xg x), 32, .inl v18)), (a28, .inl (gJ (xg x), 60, .inr (.inl v25))), (a29, .inl (gI (xg x), 27, .inl v26)), (a30, .inl (gI (xg x), 27, .inl v27)), (a31, .inl (gI (xg x), 27, .inl v28)), (a32, .inl (gI (xg x), 27, .inl v29)), (v30, .inl (gJ (xg x), v31, .inr (.inl v32))), (v33, .inl (gI (xg x), v34, .inl v35)), (v36, .inl (gZ (xg x), v37, .inl v38)), (a33, .inl (gI (xg x), 12, .inl w437)), (a34, .inl (gI (xg x), 27, .inl w438)), (a35, .inl (gI (xg x), 27, .inl w439)), (a36, .inl (gI (xg x), 60, .inl v42)), (a37, .inl (gI (xg x), 3, .inl v43)), (a38, .inl (gJ (xg x), 1, .inr (.inl w431)))] ++ ZP (xg x) a39 v45) (rest := []) (T := TX9) (c_X9_thrown (xl x) (xg x) a27 a28 a29 a30 a31 a32 v30 v33 v36 a33 a34 a35 a36 a37 w435 v20 v21 v22 w436 v24 h) gL_law_X9_thrown (by rfl) rfl rfl (by decide +kernel) ⟨⟨(Nat.le_of_ble_eq_true rfl), (Nat.le_of_ble_eq_true rfl)⟩, (Nat.le_trans (Nat.le_add_right _ _) hk.1), (Nat.le_trans (Nat.le_add_right _ _) hk.2)⟩ (Nat.le_of_ble_eq_true rfl) rfl rfl (sb_zr (sb_of [27, 0, 1, 2, 3, 4, 5, 6, 7, 8, 9, 10, 11, 12, 13, 14, 15, 16, 17, 18, 19, 20, 21, 22, 23, 24, 25, 26, 28, 29, 30, 31, 32, 33, 34, 35, 36, 37, 38, 39, 40, 41] rfl rfl)) rfl dL_law_1761 (fun v X1 hp => ?_)
    obtain ⟨r440, rfl, rfl, h⟩ := hp
    refine xw_X (sb_rz (sb_of [1, 2, 3, 4, 5, 6, 7, 8, 9, 10, 11, 12, 13, 14, 15, 16, 17, 18, 19, 20, 21, 22, 23, 24, 25, 26, 27, 0, 28, 29, 30, 31, 32, 33, 34, 35, 36, 37, 38, 39, 40, 41] rfl rfl)) (show ww x (W_L_law (xg x) a0 a1 a2 a3 a4 a5 a6 a7 a8 a9 a10 a11 a12 a13 a14 a15 a16 a17 a18 a19 a20 a21 a22 a23 a24 a25 a26 a27 a28 a29 a30 a31 a32 a33 a34 a35 a36 a37 a38 a39 ab v0 v1 v2 v3 v4 w430 v6 v7 v8 v9 v10 v11 v12 v13 v14 v15 v16 v17 v18 w435 v20 v21 v22 w436 v24 v25 v26 v27 v28 v29 v30 v31 v32 v33 v34 v35 v36 v37 v38 w437 w438 w439 v42 v43 w431 v46 v47 ++ ZP (xg x) a39 v45) [(6, .int r434), (5, .int r429), (0, .ref ab), (1, .ref a0), (2, .ref a27), (3, .ref a38), (4, .int z4)] (k0 + 1) (n0 + 6) 1764 [.int r440] from ?_)
    refine xw_iload hf (pc := 1764) dL_law_1764 1 rfl ?_
    refine xw_icmp_eq hf (pc := 1766) dL_law_1766 (tgt := 1771) rfl ⟨fun c => ?_, fun c => ?_⟩
    · have h := h.1 c
      refine xw_iload hf (pc := 1771) dL_law_1771 1 rfl ?_
      refine xw_if_ne hf (pc := 1773) dL_law_1773 (c := r429 = 0) Iff.rfl (tgt := 1788) rfl ⟨fun c => ?_, fun c => ?_⟩
      · have h := h.1 c
        refine xw_aload_n hf (pc := 1776) dL_law_1776 rfl 5 rfl ?_
        refine xw_iconst hf (pc := 1777) dL_law_1777 (v := 0) (by decide) ?_
        refine xw_lald hf (pc := 1778) dL_law_1778 41 rfl h.1 ?_
        have h := h.2
        refine xw_iload hf (pc := 1779) dL_law_1779 0 rfl ?_
        refine xw_i2l hf (pc := 1781) dL_law_1781 ?_
        refine xw_lcmp hf (pc := 1782) dL_law_1782 ?_
        refine xw_if_eq hf (pc := 1783) dL_law_1783 (c := (w431 (0 : Int32).toNatClampNeg) = r434.toInt64) (lc_eq _ _) (tgt := 1788) rfl ⟨fun c => ?_, fun c => ?_⟩
        · have h := h.1 c
          refine xw_goto hf (pc := 1788) dL_law_1788 (tgt := 2681) rfl ?_
          refine xw_L [2, 3, 4, 5, 6] rfl ?_
          exact hK2681 _ _ _ _ hk _ _ _ _ _ _ _ h
        · have h := h.2 c
          refine xw_iconst hf (pc := 1786) dL_law_1786 (v := 0) (by decide) ?_
          exact h.elim
      · have h := h.2 c
        refine xw_goto hf (pc := 1788) dL_law_1788 (tgt := 2681) rfl ?_
        refine xw_L [2, 3, 4, 5, 6] rfl ?_
        exact hK2681 _ _ _ _ hk _ _ _ _ _ _ _ h
    · have h := h.2 c
      refine xw_iconst hf (pc := 1769) dL_law_1769 (v := 0) (by decide) ?_
      exact h.elim
set_option maxHeartbeats 4000000 in
set_option maxRecDepth 100000 in
theorem w_L_law_L1791 {x : Cx} {mc ms : Nat} (hf : fx x (rm_L_law) RL cL_law wsL_law) (hn : xn x = 8) {k0 n0 rc rs : Nat} (hk : k0 + rc ≤ (rm_L_law).cells ∧ n0 + rs ≤ (rm_L_law).slots) (a0 a1 a2 a3 a4 a5 a6 a7 a8 a9 a10 a11 a12 a13 a14 a15 a16 a17 a18 a19 a20 a21 a22 a23 a24 a25 a26 a27 a28 a29 a30 a31 a32 a33 a34 a35 a36 a37 a38 a39 ab : Nat) (z4 : Int32) (v0 : Int32) (v1 : Nat → Int64) (v6 : Nat → Int32) (v7 : Nat → Int32) (v20 : Int32) (v21 : Int32) (v22 : Int32) (v24 : Int32) (v25 : Nat → Int64) (v26 : Nat → Int32) (v27 : Nat → Int32) (v46 : Nat) (v47 : Nat → Int32) (v2 : Int32) (v3 : Nat → Int64) (v4 : Nat → Int32) (v8 : Int32) (v9 : Nat → Int32) (v10 : Nat → Int32) (v11 : Int32) (v12 : Int32) (v13 : Nat → Int32) (v14 : Int32) (v15 : Nat → Int64) (v16 : Int32) (v17 : Nat → Int64) (v18 : Nat → Int32) (v28 : Nat → Int32) (v29 : Nat → Int32) (v30 : Nat) (v31 : Nat) (v32 : Nat → Int64) (v33 : Nat) (v34 : Nat) (v35 : Nat → Int32) (v36 : Nat) (v37 : Nat) (v38 : Nat → Int32) (v42 : Nat → Int32) (v43 : Nat → Int32) (v45 : ZL) {K2681 : Nat → Nat → (Nat → Int32) → Int32 → Int32 → (Nat → Int32) → (Nat → Int32) → (Nat → Int32) → (Nat → Int64) → Prop} (hst : (xl x).stackTraces = false) (hX : sX x ab v46 v47)
    (n : Nat) (v5 : Nat → Int32) (v19 : Int32) (v23 : Int32) (v39 : Nat → Int32) (v40 : Nat → Int32) (v41 : Nat → Int32) (v44 : Nat → Int64) (h : P_L_law_L1791 z4 v0 v1 v6 v7 v20 v21 v22 v24 v25 v26 v27 v46 v47 K2681 n rc rs v5 v19 v23 v39 v40 v41 v44)
    (hK2681 : ∀ (k0 n0 rc rs : Nat), k0 + rc ≤ (rm_L_law).cells ∧ n0 + rs ≤ (rm_L_law).slots → ∀ (uv5 : Nat → Int32), ∀ (uv19 : Int32), ∀ (uv23 : Int32), ∀ (uv39 : Nat → Int32), ∀ (uv40 : Nat → Int32), ∀ (uv41 : Nat → Int32), ∀ (uv44 : Nat → Int64), K2681 rc rs uv5 uv19 uv23 uv39 uv40 uv41 uv44 → ww x (W_L_law (xg x) a0 a1 a2 a3 a4 a5 a6 a7 a8 a9 a10 a11 a12 a13 a14 a15 a16 a17 a18 a19 a20 a21 a22 a23 a24 a25 a26 a27 a28 a29 a30 a31 a32 a33 a34 a35 a36 a37 a38 a39 ab v0 v1 v2 v3 v4 uv5 v6 v7 v8 v9 v10 v11 v12 v13 v14 v15 v16 v17 v18 uv19 v20 v21 v22 uv23 v24 v25 v26 v27 v28 v29 v30 v31 v32 v33 v34 v35 v36 v37 v38 uv39 uv40 uv41 v42 v43 uv44 v46 v47 ++ ZP (xg x) a39 v45) [(0, .ref ab), (1, .ref a0), (2, .ref a27), (3, .ref a38), (4, .int z4)] k0 n0 2681 []) :
    ww x (W_L_law (xg x) a0 a1 a2 a3 a4 a5 a6 a7 a8 a9 a10 a11 a12 a13 a14 a15 a16 a17 a18 a19 a20 a21 a22 a23 a24 a25 a26 a27 a28 a29 a30 a31 a32 a33 a34 a35 a36 a37 a38 a39 ab v0 v1 v2 v3 v4 v5 v6 v7 v8 v9 v10 v11 v12 v13 v14 v15 v16 v17 v18 v19 v20 v21 v22 v23 v24 v25 v26 v27 v28 v29 v30 v31 v32 v33 v34 v35 v36 v37 v38 v39 v40 v41 v42 v43 v44 v46 v47 ++ ZP (xg x) a39 v45) [(0, .ref ab), (1, .ref a0), (2, .ref a27), (3, .ref a38), (4, .int z4)] k0 n0 1791 [] := by
  induction n generalizing k0 n0 rc rs v5 v19 v23 v39 v40 v41 v44 with
  | zero => exact h.elim
  | succ n ih =>
    unfold P_L_law_L1791 at h
    refine xw_aload_n hf (pc := 1791) dL_law_1791 rfl 1 rfl ?_
    refine xw_aload_n hf (pc := 1792) dL_law_1792 rfl 0 rfl ?_
    refine xw_iload hf (pc := 1793) dL_law_1793 4 rfl ?_
    refine xw_iconst hf (pc := 1795) dL_law_1795 (v := 1) (by decide) ?_
    refine xw_iadd hf (pc := 1796) dL_law_1796 ?_
    refine xw_sald hf hX dL_law_1797 h.1 ?_
    have h := h.2
    refine xw_aload_n hf (pc := 1798) dL_law_1798 rfl 3 rfl ?_
    obtain ⟨mc455, ms456, ⟨hb1, hb2⟩, h⟩ := h
    refine xw_callSW hf (pc := 1799) (nA := 3) (Xr := [(a4, .inr (7, [.ref a5, .int v2])), (a5, .inl (gJ (xg x), 60, .inr (.inl v3))), (a6, .inr (3, [.ref a7])), (a7, .inl (gI (xg x), 32, .inl v4)), (a13, .inr (1, [.ref a39, .ref a14, .ref a16, .int v8])), (a14, .inr (3, [.ref a15])), (a15, .inl (gI (xg x), 32, .inl v9)), (a16, .inr (3, [.ref a17])), (a17, .inl (gI (xg x), 32, .inl v10)), (a18, .inr (4, [.ref a19, .ref a21, .ref a23, .int v11, .int v12])), (a19, .inr (3, [.ref a20])), (a20, .inl (gI (xg x), 32, .inl v13)), (a21, .inr (7, [.ref a22, .int v14])), (a22, .inl (gJ (xg x), 60, .inr (.inl v15))), (a23, .inr (7, [.ref a24, .int v16])), (a24, .inl (gJ (xg x), 60, .inr (.inl v17))), (a25, .inr (3, [.ref a26])), (a26, .inl (gI (xg x), 32, .inl v18)), (a27, .inr (9, [.int v19, .ref a28, .int v20, .ref a29, .ref a30, .ref a31, .ref a32, .ref v30, .ref v33, .ref v36, .int v21, .int v22, .ref a33, .int v23, .ref a34, .ref a35, .ref a36, .ref a37, .int v24])), (a28, .inl (gJ (xg x), 60, .inr (.inl v25))), (a29, .inl (gI (xg x), 27, .inl v26)), (a30, .inl (gI (xg x), 27, .inl v27)), (a31, .inl (gI (xg x), 27, .inl v28)), (a32, .inl (gI (xg x), 27, .inl v29)), (v30, .inl (gJ (xg x), v31, .inr (.inl v32))), (v33, .inl (gI (xg x), v34, .inl v35)), (v36, .inl (gZ (xg x), v37, .inl v38)), (a33, .inl (gI (xg x), 12, .inl v39)), (a34, .inl (gI (xg x), 27, .inl v40)), (a35, .inl (gI (xg x), 27, .inl v41)), (a36, .inl (gI (xg x), 60, .inl v42)), (a37, .inl (gI (xg x), 3, .inl v43))] ++ ZP (xg x) a39 v45) (rest := []) (c_L_bestWord (xl x) (xg x) hst a0 a1 a2 a3 a8 a9 a10 a11 a12 a38 a13 a18 a25 a4 a6 v0 v1 v5 v6 v7 v44 (v47 (z4 + 1).toNatClampNeg) h) gL_law_L_bestWord (by rfl) rfl (by decide +kernel) ⟨⟨(Nat.le_of_ble_eq_true rfl), (Nat.le_of_ble_eq_true rfl)⟩, (Nat.le_trans (show k0 + 1 ≤ k0 + rc by omega) hk.1), (Nat.le_trans (show n0 + 6 ≤ n0 + rs by omega) hk.2)⟩ (Nat.le_of_ble_eq_true rfl) (sb_zr (sb_of [0, 1, 2, 3, 8, 9, 10, 11, 12, 41, 4, 5, 6, 7, 13, 14, 15, 16, 17, 18, 19, 20, 21, 22, 23, 24, 25, 26, 27, 28, 29, 30, 31, 32, 33, 34, 35, 36, 37, 38, 39, 40] rfl rfl)) rfl dL_law_1799 (fun v X1 hp => ?_)
    obtain ⟨r452, w453, w454, rfl, rfl, h⟩ := hp
    have hk : k0 + 1 + mc455 ≤ (rm_L_law).cells ∧ n0 + 6 + ms456 ≤ (rm_L_law).slots := ⟨Nat.le_trans (show k0 + 1 + mc455 ≤ k0 + rc by omega) hk.1, Nat.le_trans (show n0 + 6 + ms456 ≤ n0 + rs by omega) hk.2⟩
    refine xw_X (sb_rz (sb_of [0, 1, 2, 3, 10, 11, 12, 13, 4, 5, 6, 7, 8, 14, 15, 16, 17, 18, 19, 20, 21, 22, 23, 24, 25, 26, 27, 28, 29, 30, 31, 32, 33, 34, 35, 36, 37, 38, 39, 40, 41, 9] rfl rfl)) (show ww x (W_L_law (xg x) a0 a1 a2 a3 a4 a5 a6 a7 a8 a9 a10 a11 a12 a13 a14 a15 a16 a17 a18 a19 a20 a21 a22 a23 a24 a25 a26 a27 a28 a29 a30 a31 a32 a33 a34 a35 a36 a37 a38 a39 ab v0 v1 v2 v3 v4 w453 v6 v7 v8 v9 v10 v11 v12 v13 v14 v15 v16 v17 v18 v19 v20 v21 v22 v23 v24 v25 v26 v27 v28 v29 v30 v31 v32 v33 v34 v35 v36 v37 v38 v39 v40 v41 v42 v43 w454 v46 v47 ++ ZP (xg x) a39 v45) [(0, .ref ab), (1, .ref a0), (2, .ref a27), (3, .ref a38), (4, .int z4)] (k0 + 1) (n0 + 6) 1802 [.int r452] from ?_)
    refine xw_istore hf (pc := 1802) dL_law_1802 [(5, .int r452), (0, .ref ab), (1, .ref a0), (2, .ref a27), (3, .ref a38), (4, .int z4)] hn (by decide) rfl ?_
    refine xw_aload_n hf (pc := 1804) dL_law_1804 rfl 3 rfl ?_
    refine xw_aload_n hf (pc := 1805) dL_law_1805 rfl 1 rfl ?_
    refine xw_iload hf (pc := 1806) dL_law_1806 5 rfl ?_
    refine xw_iconst hf (pc := 1808) dL_law_1808 (v := 1) (by decide) ?_
    refine xw_iadd hf (pc := 1809) dL_law_1809 ?_
    refine xw_sald hf hX dL_law_1810 h.1 ?_
    have h := h.2
    refine xw_callV hf (pc := 1811) (nA := 1) (Xr := [(a0, .inr (8, [.ref a1, .ref a8, .ref a13, .ref a18, .ref a25])), (a1, .inr (2, [.ref a2, .ref a4, .ref a6])), (a2, .inr (7, [.ref a3, .int v0])), (a3, .inl (gJ (xg x), 60, .inr (.inl v1))), (a4, .inr (7, [.ref a5, .int v2])), (a5, .inl (gJ (xg x), 60, .inr (.inl v3))), (a6, .inr (3, [.ref a7])), (a7, .inl (gI (xg x), 32, .inl v4)), (a8, .inr (6, [.ref a9, .ref a11, .ref a12])), (a9, .inr (3, [.ref a10])), (a10, .inl (gI (xg x), 32, .inl w453)), (a11, .inl (gI (xg x), 32, .inl v6)), (a12, .inl (gI (xg x), 32, .inl v7)), (a13, .inr (1, [.ref a39, .ref a14, .ref a16, .int v8])), (a14, .inr (3, [.ref a15])), (a15, .inl (gI (xg x), 32, .inl v9)), (a16, .inr (3, [.ref a17])), (a17, .inl (gI (xg x), 32, .inl v10)), (a18, .inr (4, [.ref a19, .ref a21, .ref a23, .int v11, .int v12])), (a19, .inr (3, [.ref a20])), (a20, .inl (gI (xg x), 32, .inl v13)), (a21, .inr (7, [.ref a22, .int v14])), (a22, .inl (gJ (xg x), 60, .inr (.inl v15))), (a23, .inr (7, [.ref a24, .int v16])), (a24, .inl (gJ (xg x), 60, .inr (.inl v17))), (a25, .inr (3, [.ref a26])), (a26, .inl (gI (xg x), 32, .inl v18)), (a31, .inl (gI (xg x), 27, .inl v28)), (a32, .inl (gI (xg x), 27, .inl v29)), (v30, .inl (gJ (xg x), v31, .inr (.inl v32))), (v33, .inl (gI (xg x), v34, .inl v35)), (v36, .inl (gZ (xg x), v37, .inl v38)), (a36, .inl (gI (xg x), 60, .inl v42)), (a37, .inl (gI (xg x), 3, .inl v43)), (a38, .inl (gJ (xg x), 1, .inr (.inl w454)))] ++ ZP (xg x) a39 v45) (rest := []) (T := TX9) (c_X9_bestWord (xl x) (xg x) a27 a28 a29 a30 a33 a34 a35 a31 a32 v30 v33 v36 a36 a37 v19 v20 v21 v22 v23 v24 v25 v26 v27 v39 v40 v41 (v47 (z4 + 1).toNatClampNeg) h) gL_law_X9_bestWord (by rfl) rfl rfl (by decide +kernel) ⟨⟨(Nat.le_of_ble_eq_true rfl), (Nat.le_of_ble_eq_true rfl)⟩, (Nat.le_trans (Nat.le_add_right _ _) hk.1), (Nat.le_trans (Nat.le_add_right _ _) hk.2)⟩ (Nat.le_of_ble_eq_true rfl) rfl rfl (sb_zr (sb_of [27, 28, 29, 30, 36, 37, 38, 0, 1, 2, 3, 4, 5, 6, 7, 8, 9, 10, 11, 12, 13, 14, 15, 16, 17, 18, 19, 20, 21, 22, 23, 24, 25, 26, 31, 32, 33, 34, 35, 39, 40, 41] rfl rfl)) rfl dL_law_1811 (fun v X1 hp => ?_)
    obtain ⟨r457, w458, w459, w460, w461, w462, rfl, rfl, h⟩ := hp
    refine xw_X (sb_rz (sb_of [7, 8, 9, 10, 11, 12, 13, 14, 15, 16, 17, 18, 19, 20, 21, 22, 23, 24, 25, 26, 27, 28, 29, 30, 31, 32, 33, 0, 1, 2, 3, 34, 35, 36, 37, 38, 4, 5, 6, 39, 40, 41] rfl rfl)) (show ww x (W_L_law (xg x) a0 a1 a2 a3 a4 a5 a6 a7 a8 a9 a10 a11 a12 a13 a14 a15 a16 a17 a18 a19 a20 a21 a22 a23 a24 a25 a26 a27 a28 a29 a30 a31 a32 a33 a34 a35 a36 a37 a38 a39 ab v0 v1 v2 v3 v4 w453 v6 v7 v8 v9 v10 v11 v12 v13 v14 v15 v16 v17 v18 w458 v20 v21 v22 w459 v24 v25 v26 v27 v28 v29 v30 v31 v32 v33 v34 v35 v36 v37 v38 w460 w461 w462 v42 v43 w454 v46 v47 ++ ZP (xg x) a39 v45) [(5, .int r452), (0, .ref ab), (1, .ref a0), (2, .ref a27), (3, .ref a38), (4, .int z4)] (k0 + 1) (n0 + 6) 1814 [.long r457] from ?_)
    refine xw_lstore hf (pc := 1814) dL_law_1814 [(6, .long r457), (5, .int r452), (0, .ref ab), (1, .ref a0), (2, .ref a27), (3, .ref a38), (4, .int z4)] hn (by decide) rfl ?_
    refine xw_aload_n hf (pc := 1816) dL_law_1816 rfl 4 rfl ?_
    refine xw_callV hf (pc := 1817) (nA := 0) (Xr := [(a0, .inr (8, [.ref a1, .ref a8, .ref a13, .ref a18, .ref a25])), (a1, .inr (2, [.ref a2, .ref a4, .ref a6])), (a2, .inr (7, [.ref a3, .int v0])), (a3, .inl (gJ (xg x), 60, .inr (.inl v1))), (a4, .inr (7, [.ref a5, .int v2])), (a5, .inl (gJ (xg x), 60, .inr (.inl v3))), (a6, .inr (3, [.ref a7])), (a7, .inl (gI (xg x), 32, .inl v4)), (a8, .inr (6, [.ref a9, .ref a11, .ref a12])), (a9, .inr (3, [.ref a10])), (a10, .inl (gI (xg x), 32, .inl w453)), (a11, .inl (gI (xg x), 32, .inl v6)), (a12, .inl (gI (xg x), 32, .inl v7)), (a13, .inr (1, [.ref a39, .ref a14, .ref a16, .int v8])), (a14, .inr (3, [.ref a15])), (a15, .inl (gI (xg x), 32, .inl v9)), (a16, .inr (3, [.ref a17])), (a17, .inl (gI (xg x), 32, .inl v10)), (a18, .inr (4, [.ref a19, .ref a21, .ref a23, .int v11, .int v12])), (a19, .inr (3, [.ref a20])), (a20, .inl (gI (xg x), 32, .inl v13)), (a21, .inr (7, [.ref a22, .int v14])), (a22, .inl (gJ (xg x), 60, .inr (.inl v15))), (a23, .inr (7, [.ref a24, .int v16])), (a24, .inl (gJ (xg x), 60, .inr (.inl v17))), (a25, .inr (3, [.ref a26])), (a26, .inl (gI (xg x), 32, .inl v18)), (a28, .inl (gJ (xg x), 60, .inr (.inl v25))), (a29, .inl (gI (xg x), 27, .inl v26)), (a30, .inl (gI (xg x), 27, .inl v27)), (a31, .inl (gI (xg x), 27, .inl v28)), (a32, .inl (gI (xg x), 27, .inl v29)), (v30, .inl (gJ (xg x), v31, .inr (.inl v32))), (v33, .inl (gI (xg x), v34, .inl v35)), (v36, .inl (gZ (xg x), v37, .inl v38)), (a33, .inl (gI (xg x), 12, .inl w460)), (a34, .inl (gI (xg x), 27, .inl w461)), (a35, .inl (gI (xg x), 27, .inl w462)), (a36, .inl (gI (xg x), 60, .inl v42)), (a37, .inl (gI (xg x), 3, .inl v43)), (a38, .inl (gJ (xg x), 1, .inr (.inl w454)))] ++ ZP (xg x) a39 v45) (rest := []) (T := TX9) (c_X9_thrown (xl x) (xg x) a27 a28 a29 a30 a31 a32 v30 v33 v36 a33 a34 a35 a36 a37 w458 v20 v21 v22 w459 v24 h) gL_law_X9_thrown (by rfl) rfl rfl (by decide +kernel) ⟨⟨(Nat.le_of_ble_eq_true rfl), (Nat.le_of_ble_eq_true rfl)⟩, (Nat.le_trans (Nat.le_add_right _ _) hk.1), (Nat.le_trans (Nat.le_add_right _ _) hk.2)⟩ (Nat.le_of_ble_eq_true rfl) rfl rfl (sb_zr (sb_of [27, 0, 1, 2, 3, 4, 5, 6, 7, 8, 9, 10, 11, 12, 13, 14, 15, 16, 17, 18, 19, 20, 21, 22, 23, 24, 25, 26, 28, 29, 30, 31, 32, 33, 34, 35, 36, 37, 38, 39, 40, 41] rfl rfl)) rfl dL_law_1817 (fun v X1 hp => ?_)
    obtain ⟨r463, rfl, rfl, h⟩ := hp
    refine xw_X (sb_rz (sb_of [1, 2, 3, 4, 5, 6, 7, 8, 9, 10, 11, 12, 13, 14, 15, 16, 17, 18, 19, 20, 21, 22, 23, 24, 25, 26, 27, 0, 28, 29, 30, 31, 32, 33, 34, 35, 36, 37, 38, 39, 40, 41] rfl rfl)) (show ww x (W_L_law (xg x) a0 a1 a2 a3 a4 a5 a6 a7 a8 a9 a10 a11 a12 a13 a14 a15 a16 a17 a18 a19 a20 a21 a22 a23 a24 a25 a26 a27 a28 a29 a30 a31 a32 a33 a34 a35 a36 a37 a38 a39 ab v0 v1 v2 v3 v4 w453 v6 v7 v8 v9 v10 v11 v12 v13 v14 v15 v16 v17 v18 w458 v20 v21 v22 w459 v24 v25 v26 v27 v28 v29 v30 v31 v32 v33 v34 v35 v36 v37 v38 w460 w461 w462 v42 v43 w454 v46 v47 ++ ZP (xg x) a39 v45) [(6, .long r457), (5, .int r452), (0, .ref ab), (1, .ref a0), (2, .ref a27), (3, .ref a38), (4, .int z4)] (k0 + 1) (n0 + 6) 1820 [.int r463] from ?_)
    refine xw_iload hf (pc := 1820) dL_law_1820 1 rfl ?_
    refine xw_icmp_eq hf (pc := 1822) dL_law_1822 (tgt := 1827) rfl ⟨fun c => ?_, fun c => ?_⟩
    · have h := h.1 c
      refine xw_iload hf (pc := 1827) dL_law_1827 1 rfl ?_
      refine xw_if_ne hf (pc := 1829) dL_law_1829 (c := r452 = 0) Iff.rfl (tgt := 1843) rfl ⟨fun c => ?_, fun c => ?_⟩
      · have h := h.1 c
        refine xw_aload_n hf (pc := 1832) dL_law_1832 rfl 5 rfl ?_
        refine xw_iconst hf (pc := 1833) dL_law_1833 (v := 0) (by decide) ?_
        refine xw_lald hf (pc := 1834) dL_law_1834 41 rfl h.1 ?_
        have h := h.2
        refine xw_lload hf (pc := 1835) dL_law_1835 0 rfl ?_
        refine xw_lcmp hf (pc := 1837) dL_law_1837 ?_
        refine xw_if_eq hf (pc := 1838) dL_law_1838 (c := (w454 (0 : Int32).toNatClampNeg) = r457) (lc_eq _ _) (tgt := 1843) rfl ⟨fun c => ?_, fun c => ?_⟩
        · have h := h.1 c
          refine xw_goto hf (pc := 1843) dL_law_1843 (tgt := 2681) rfl ?_
          refine xw_L [2, 3, 4, 5, 6] rfl ?_
          exact hK2681 _ _ _ _ hk _ _ _ _ _ _ _ h
        · have h := h.2 c
          refine xw_iconst hf (pc := 1841) dL_law_1841 (v := 0) (by decide) ?_
          exact h.elim
      · have h := h.2 c
        refine xw_goto hf (pc := 1843) dL_law_1843 (tgt := 2681) rfl ?_
        refine xw_L [2, 3, 4, 5, 6] rfl ?_
        exact hK2681 _ _ _ _ hk _ _ _ _ _ _ _ h
    · have h := h.2 c
      refine xw_iconst hf (pc := 1825) dL_law_1825 (v := 0) (by decide) ?_
      exact h.elim
set_option maxHeartbeats 4000000 in
set_option maxRecDepth 100000 in
theorem w_L_law_L1846 {x : Cx} {mc ms : Nat} (hf : fx x (rm_L_law) RL cL_law wsL_law) (hn : xn x = 8) {k0 n0 rc rs : Nat} (hk : k0 + rc ≤ (rm_L_law).cells ∧ n0 + rs ≤ (rm_L_law).slots) (a0 a1 a2 a3 a4 a5 a6 a7 a8 a9 a10 a11 a12 a13 a14 a15 a16 a17 a18 a19 a20 a21 a22 a23 a24 a25 a26 a27 a28 a29 a30 a31 a32 a33 a34 a35 a36 a37 a38 a39 ab : Nat) (z4 : Int32) (v0 : Int32) (v1 : Nat → Int64) (v6 : Nat → Int32) (v7 : Nat → Int32) (v20 : Int32) (v24 : Int32) (v25 : Nat → Int64) (v27 : Nat → Int32) (v46 : Nat) (v47 : Nat → Int32) (v2 : Int32) (v3 : Nat → Int64) (v4 : Nat → Int32) (v9 : Nat → Int32) (v11 : Int32) (v12 : Int32) (v13 : Nat → Int32) (v14 : Int32) (v15 : Nat → Int64) (v16 : Int32) (v17 : Nat → Int64) (v18 : Nat → Int32) (v28 : Nat → Int32) (v42 : Nat → Int32) (v43 : Nat → Int32) {K2681 : Nat → Nat → (Nat → Int32) → Int32 → (Nat → Int32) → Int32 → Int32 → Int32 → Int32 → (Nat → Int32) → (Nat → Int32) → Nat → Nat → (Nat → Int64) → Nat → Nat → (Nat → Int32) → Nat → Nat → (Nat → Int32) → (Nat → Int32) → (Nat → Int32) → (Nat → Int32) → (Nat → Int64) → ZL → Prop} (hst : (xl x).stackTraces = false) (hX : sX x ab v46 v47)
    (n : Nat) (v5 : Nat → Int32) (v8 : Int32) (v10 : Nat → Int32) (v19 : Int32) (v21 : Int32) (v22 : Int32) (v23 : Int32) (v26 : Nat → Int32) (v29 : Nat → Int32) (v30 : Nat) (v31 : Nat) (v32 : Nat → Int64) (v33 : Nat) (v34 : Nat) (v35 : Nat → Int32) (v36 : Nat) (v37 : Nat) (v38 : Nat → Int32) (v39 : Nat → Int32) (v40 : Nat → Int32) (v41 : Nat → Int32) (v44 : Nat → Int64) (v45 : ZL) (h : P_L_law_L1846 z4 v0 v1 v6 v7 v20 v24 v25 v27 v46 v47 K2681 n rc rs v5 v8 v10 v19 v21 v22 v23 v26 v29 v30 v31 v32 v33 v34 v35 v36 v37 v38 v39 v40 v41 v44 v45)
    (hK2681 : ∀ (k0 n0 rc rs : Nat), k0 + rc ≤ (rm_L_law).cells ∧ n0 + rs ≤ (rm_L_law).slots → ∀ (uv5 : Nat → Int32), ∀ (uv8 : Int32), ∀ (uv10 : Nat → Int32), ∀ (uv19 : Int32), ∀ (uv21 : Int32), ∀ (uv22 : Int32), ∀ (uv23 : Int32), ∀ (uv26 : Nat → Int32), ∀ (uv29 : Nat → Int32), ∀ (uv30 : Nat), ∀ (uv31 : Nat), ∀ (uv32 : Nat → Int64), ∀ (uv33 : Nat), ∀ (uv34 : Nat), ∀ (uv35 : Nat → Int32), ∀ (uv36 : Nat), ∀ (uv37 : Nat), ∀ (uv38 : Nat → Int32), ∀ (uv39 : Nat → Int32), ∀ (uv40 : Nat → Int32), ∀ (uv41 : Nat → Int32), ∀ (uv44 : Nat → Int64), ∀ (uv45 : ZL), K2681 rc rs uv5 uv8 uv10 uv19 uv21 uv22 uv23 uv26 uv29 uv30 uv31 uv32 uv33 uv34 uv35 uv36 uv37 uv38 uv39 uv40 uv41 uv44 uv45 → ww x (W_L_law (xg x) a0 a1 a2 a3 a4 a5 a6 a7 a8 a9 a10 a11 a12 a13 a14 a15 a16 a17 a18 a19 a20 a21 a22 a23 a24 a25 a26 a27 a28 a29 a30 a31 a32 a33 a34 a35 a36 a37 a38 a39 ab v0 v1 v2 v3 v4 uv5 v6 v7 uv8 v9 uv10 v11 v12 v13 v14 v15 v16 v17 v18 uv19 v20 uv21 uv22 uv23 v24 v25 uv26 v27 v28 uv29 uv30 uv31 uv32 uv33 uv34 uv35 uv36 uv37 uv38 uv39 uv40 uv41 v42 v43 uv44 v46 v47 ++ ZP (xg x) a39 uv45) [(0, .ref ab), (1, .ref a0), (2, .ref a27), (3, .ref a38), (4, .int z4)] k0 n0 2681 []) :
    ww x (W_L_law (xg x) a0 a1 a2 a3 a4 a5 a6 a7 a8 a9 a10 a11 a12 a13 a14 a15 a16 a17 a18 a19 a20 a21 a22 a23 a24 a25 a26 a27 a28 a29 a30 a31 a32 a33 a34 a35 a36 a37 a38 a39 ab v0 v1 v2 v3 v4 v5 v6 v7 v8 v9 v10 v11 v12 v13 v14 v15 v16 v17 v18 v19 v20 v21 v22 v23 v24 v25 v26 v27 v28 v29 v30 v31 v32 v33 v34 v35 v36 v37 v38 v39 v40 v41 v42 v43 v44 v46 v47 ++ ZP (xg x) a39 v45) [(0, .ref ab), (1, .ref a0), (2, .ref a27), (3, .ref a38), (4, .int z4)] k0 n0 1846 [] := by
  induction n generalizing k0 n0 rc rs v5 v8 v10 v19 v21 v22 v23 v26 v29 v30 v31 v32 v33 v34 v35 v36 v37 v38 v39 v40 v41 v44 v45 with
  | zero => exact h.elim
  | succ n ih =>
    unfold P_L_law_L1846 at h
    refine xw_aload_n hf (pc := 1846) dL_law_1846 rfl 1 rfl ?_
    refine xw_aload_n hf (pc := 1847) dL_law_1847 rfl 0 rfl ?_
    refine xw_iload hf (pc := 1848) dL_law_1848 4 rfl ?_
    refine xw_iconst hf (pc := 1850) dL_law_1850 (v := 1) (by decide) ?_
    refine xw_iadd hf (pc := 1851) dL_law_1851 ?_
    refine xw_sald hf hX dL_law_1852 h.1 ?_
    have h := h.2
    refine xw_aload_n hf (pc := 1853) dL_law_1853 rfl 3 rfl ?_
    obtain ⟨mc481, ms482, mc483, ms484, ⟨hb1, hb2⟩, h⟩ := h
    refine xw_callSW hf (pc := 1854) (nA := 3) (Xr := [(a4, .inr (7, [.ref a5, .int v2])), (a5, .inl (gJ (xg x), 60, .inr (.inl v3))), (a6, .inr (3, [.ref a7])), (a7, .inl (gI (xg x), 32, .inl v4)), (a14, .inr (3, [.ref a15])), (a15, .inl (gI (xg x), 32, .inl v9)), (a18, .inr (4, [.ref a19, .ref a21, .ref a23, .int v11, .int v12])), (a19, .inr (3, [.ref a20])), (a20, .inl (gI (xg x), 32, .inl v13)), (a21, .inr (7, [.ref a22, .int v14])), (a22, .inl (gJ (xg x), 60, .inr (.inl v15))), (a23, .inr (7, [.ref a24, .int v16])), (a24, .inl (gJ (xg x), 60, .inr (.inl v17))), (a25, .inr (3, [.ref a26])), (a26, .inl (gI (xg x), 32, .inl v18)), (a27, .inr (9, [.int v19, .ref a28, .int v20, .ref a29, .ref a30, .ref a31, .ref a32, .ref v30, .ref v33, .ref v36, .int v21, .int v22, .ref a33, .int v23, .ref a34, .ref a35, .ref a36, .ref a37, .int v24])), (a28, .inl (gJ (xg x), 60, .inr (.inl v25))), (a29, .inl (gI (xg x), 27, .inl v26)), (a30, .inl (gI (xg x), 27, .inl v27)), (a31, .inl (gI (xg x), 27, .inl v28)), (a32, .inl (gI (xg x), 27, .inl v29)), (v30, .inl (gJ (xg x), v31, .inr (.inl v32))), (v33, .inl (gI (xg x), v34, .inl v35)), (v36, .inl (gZ (xg x), v37, .inl v38)), (a33, .inl (gI (xg x), 12, .inl v39)), (a34, .inl (gI (xg x), 27, .inl v40)), (a35, .inl (gI (xg x), 27, .inl v41)), (a36, .inl (gI (xg x), 60, .inl v42)), (a37, .inl (gI (xg x), 3, .inl v43))]) (rest := []) (c_L_spend (xl x) (xg x) hst a0 a1 a2 a3 a8 a9 a10 a11 a12 a13 a16 a17 a38 a39 a18 a25 a4 a6 a14 v0 v1 v5 v6 v7 v8 v10 v44 v45 (v47 (z4 + 1).toNatClampNeg) h) gL_law_L_spend (by rfl) rfl (by decide +kernel) ⟨⟨(Nat.le_of_ble_eq_true rfl), (Nat.le_of_ble_eq_true rfl)⟩, (Nat.le_trans (show k0 + mc481 ≤ k0 + rc by omega) hk.1), (Nat.le_trans (show n0 + ms482 ≤ n0 + rs by omega) hk.2)⟩ (Nat.le_of_ble_eq_true rfl) (sb_zc (sb_of [0, 1, 2, 3, 8, 9, 10, 11, 12, 13, 16, 17, 41, 4, 5, 6, 7, 14, 15, 18, 19, 20, 21, 22, 23, 24, 25, 26, 27, 28, 29, 30, 31, 32, 33, 34, 35, 36, 37, 38, 39, 40] rfl rfl)) rfl dL_law_1854 (fun v X1 hp => ?_)
    obtain ⟨r475, w476, w477, w478, w479, w480, rfl, rfl, h⟩ := hp
    have hk : k0 + mc481 + mc483 ≤ (rm_L_law).cells ∧ n0 + ms482 + ms484 ≤ (rm_L_law).slots := ⟨Nat.le_trans (show k0 + mc481 + mc483 ≤ k0 + rc by omega) hk.1, Nat.le_trans (show n0 + ms482 + ms484 ≤ n0 + rs by omega) hk.2⟩
    refine xw_X (sb_cz (sb_of [0, 1, 2, 3, 13, 14, 15, 16, 4, 5, 6, 7, 8, 9, 17, 18, 10, 11, 19, 20, 21, 22, 23, 24, 25, 26, 27, 28, 29, 30, 31, 32, 33, 34, 35, 36, 37, 38, 39, 40, 41, 12] rfl rfl)) (show ww x (W_L_law (xg x) a0 a1 a2 a3 a4 a5 a6 a7 a8 a9 a10 a11 a12 a13 a14 a15 a16 a17 a18 a19 a20 a21 a22 a23 a24 a25 a26 a27 a28 a29 a30 a31 a32 a33 a34 a35 a36 a37 a38 a39 ab v0 v1 v2 v3 v4 w476 v6 v7 w477 v9 w478 v11 v12 v13 v14 v15 v16 v17 v18 v19 v20 v21 v22 v23 v24 v25 v26 v27 v28 v29 v30 v31 v32 v33 v34 v35 v36 v37 v38 v39 v40 v41 v42 v43 w479 v46 v47 ++ ZP (xg x) a39 w480) [(0, .ref ab), (1, .ref a0), (2, .ref a27), (3, .ref a38), (4, .int z4)] (k0 + mc481) (n0 + ms482) 1857 [.int r475] from ?_)
    refine xw_istore hf (pc := 1857) dL_law_1857 [(5, .int r475), (0, .ref ab), (1, .ref a0), (2, .ref a27), (3, .ref a38), (4, .int z4)] hn (by decide) rfl ?_
    refine xw_aload_n hf (pc := 1859) dL_law_1859 rfl 3 rfl ?_
    refine xw_aload_n hf (pc := 1860) dL_law_1860 rfl 1 rfl ?_
    refine xw_iload hf (pc := 1861) dL_law_1861 5 rfl ?_
    refine xw_iconst hf (pc := 1863) dL_law_1863 (v := 1) (by decide) ?_
    refine xw_iadd hf (pc := 1864) dL_law_1864 ?_
    refine xw_sald hf hX dL_law_1865 h.1 ?_
    have h := h.2
    obtain ⟨mc504, ms505, mc506, ms507, ⟨hb1, hb2⟩, h⟩ := h
    refine xw_callV hf (pc := 1866) (nA := 1) (Xr := [(a0, .inr (8, [.ref a1, .ref a8, .ref a13, .ref a18, .ref a25])), (a1, .inr (2, [.ref a2, .ref a4, .ref a6])), (a2, .inr (7, [.ref a3, .int v0])), (a3, .inl (gJ (xg x), 60, .inr (.inl v1))), (a4, .inr (7, [.ref a5, .int v2])), (a5, .inl (gJ (xg x), 60, .inr (.inl v3))), (a6, .inr (3, [.ref a7])), (a7, .inl (gI (xg x), 32, .inl v4)), (a8, .inr (6, [.ref a9, .ref a11, .ref a12])), (a9, .inr (3, [.ref a10])), (a10, .inl (gI (xg x), 32, .inl w476)), (a11, .inl (gI (xg x), 32, .inl v6)), (a12, .inl (gI (xg x), 32, .inl v7)), (a13, .inr (1, [.ref a39, .ref a14, .ref a16, .int w477])), (a14, .inr (3, [.ref a15])), (a15, .inl (gI (xg x), 32, .inl v9)), (a16, .inr (3, [.ref a17])), (a17, .inl (gI (xg x), 32, .inl w478)), (a18, .inr (4, [.ref a19, .ref a21, .ref a23, .int v11, .int v12])), (a19, .inr (3, [.ref a20])), (a20, .inl (gI (xg x), 32, .inl v13)), (a21, .inr (7, [.ref a22, .int v14])), (a22, .inl (gJ (xg x), 60, .inr (.inl v15))), (a23, .inr (7, [.ref a24, .int v16])), (a24, .inl (gJ (xg x), 60, .inr (.inl v17))), (a25, .inr (3, [.ref a26])), (a26, .inl (gI (xg x), 32, .inl v18)), (a31, .inl (gI (xg x), 27, .inl v28)), (a36, .inl (gI (xg x), 60, .inl v42)), (a37, .inl (gI (xg x), 3, .inl v43)), (a38, .inl (gJ (xg x), 1, .inr (.inl w479)))] ++ ZP (xg x) a39 w480) (rest := []) (T := TX9) (c_X9_spend (xl x) (xg x) a27 a28 a29 a30 a32 a33 a34 a35 a31 a36 a37 v19 v20 v21 v22 v23 v24 v25 v26 v27 v29 v30 v31 v32 v33 v34 v35 v36 v37 v38 v39 v40 v41 (v47 (z4 + 1).toNatClampNeg) h) gL_law_X9_spend (by rfl) rfl rfl (by decide +kernel) ⟨⟨(Nat.le_of_ble_eq_true rfl), (Nat.le_of_ble_eq_true rfl)⟩, (Nat.le_trans (show k0 + mc481 + mc504 ≤ k0 + mc481 + mc483 by omega) hk.1), (Nat.le_trans (show n0 + ms482 + ms505 ≤ n0 + ms482 + ms484 by omega) hk.2)⟩ (Nat.le_of_ble_eq_true rfl) rfl rfl (sb_zr (sb_of [27, 28, 29, 30, 32, 33, 34, 35, 36, 37, 38, 0, 1, 2, 3, 4, 5, 6, 7, 8, 9, 10, 11, 12, 13, 14, 15, 16, 17, 18, 19, 20, 21, 22, 23, 24, 25, 26, 31, 39, 40, 41] rfl rfl)) rfl dL_law_1866 (fun v X1 hp => ?_)
    obtain ⟨r485, w486, w487, w488, w489, w490, w491, w492, w493, w494, w495, w496, w497, w498, w499, w500, w501, w502, w503, rfl, rfl, h⟩ := hp
    have hk : k0 + mc481 + mc504 + mc506 ≤ (rm_L_law).cells ∧ n0 + ms482 + ms505 + ms507 ≤ (rm_L_law).slots := ⟨Nat.le_trans (show k0 + mc481 + mc504 + mc506 ≤ k0 + mc481 + mc483 by omega) hk.1, Nat.le_trans (show n0 + ms482 + ms505 + ms507 ≤ n0 + ms482 + ms484 by omega) hk.2⟩
    refine xw_X (sb_rz (sb_of [11, 12, 13, 14, 15, 16, 17, 18, 19, 20, 21, 22, 23, 24, 25, 26, 27, 28, 29, 30, 31, 32, 33, 34, 35, 36, 37, 0, 1, 2, 3, 38, 4, 5, 6, 7, 8, 9, 10, 39, 40, 41] rfl rfl)) (show ww x (W_L_law (xg x) a0 a1 a2 a3 a4 a5 a6 a7 a8 a9 a10 a11 a12 a13 a14 a15 a16 a17 a18 a19 a20 a21 a22 a23 a24 a25 a26 a27 a28 a29 a30 a31 a32 a33 a34 a35 a36 a37 a38 a39 ab v0 v1 v2 v3 v4 w476 v6 v7 w477 v9 w478 v11 v12 v13 v14 v15 v16 v17 v18 w486 v20 w487 w488 w489 v24 v25 w490 v27 v28 w491 w492 w493 w494 w495 w496 w497 w498 w499 w500 w501 w502 w503 v42 v43 w479 v46 v47 ++ ZP (xg x) a39 w480) [(5, .int r475), (0, .ref ab), (1, .ref a0), (2, .ref a27), (3, .ref a38), (4, .int z4)] (k0 + mc481 + mc504) (n0 + ms482 + ms505) 1869 [.int r485] from ?_)
    refine xw_istore hf (pc := 1869) dL_law_1869 [(6, .int r485), (5, .int r475), (0, .ref ab), (1, .ref a0), (2, .ref a27), (3, .ref a38), (4, .int z4)] hn (by decide) rfl ?_
    refine xw_aload_n hf (pc := 1871) dL_law_1871 rfl 4 rfl ?_
    refine xw_callV hf (pc := 1872) (nA := 0) (Xr := [(a0, .inr (8, [.ref a1, .ref a8, .ref a13, .ref a18, .ref a25])), (a1, .inr (2, [.ref a2, .ref a4, .ref a6])), (a2, .inr (7, [.ref a3, .int v0])), (a3, .inl (gJ (xg x), 60, .inr (.inl v1))), (a4, .inr (7, [.ref a5, .int v2])), (a5, .inl (gJ (xg x), 60, .inr (.inl v3))), (a6, .inr (3, [.ref a7])), (a7, .inl (gI (xg x), 32, .inl v4)), (a8, .inr (6, [.ref a9, .ref a11, .ref a12])), (a9, .inr (3, [.ref a10])), (a10, .inl (gI (xg x), 32, .inl w476)), (a11, .inl (gI (xg x), 32, .inl v6)), (a12, .inl (gI (xg x), 32, .inl v7)), (a13, .inr (1, [.ref a39, .ref a14, .ref a16, .int w477])), (a14, .inr (3, [.ref a15])), (a15, .inl (gI (xg x), 32, .inl v9)), (a16, .inr (3, [.ref a17])), (a17, .inl (gI (xg x), 32, .inl w478)), (a18, .inr (4, [.ref a19, .ref a21, .ref a23, .int v11, .int v12])), (a19, .inr (3, [.ref a20])), (a20, .inl (gI (xg x), 32, .inl v13)), (a21, .inr (7, [.ref a22, .int v14])), (a22, .inl (gJ (xg x), 60, .inr (.inl v15))), (a23, .inr (7, [.ref a24, .int v16])), (a24, .inl (gJ (xg x), 60, .inr (.inl v17))), (a25, .inr (3, [.ref a26])), (a26, .inl (gI (xg x), 32, .inl v18)), (a28, .inl (gJ (xg x), 60, .inr (.inl v25))), (a29, .inl (gI (xg x), 27, .inl w490)), (a30, .inl (gI (xg x), 27, .inl v27)), (a31, .inl (gI (xg x), 27, .inl v28)), (a32, .inl (gI (xg x), 27, .inl w491)), (w492, .inl (gJ (xg x), w493, .inr (.inl w494))), (w495, .inl (gI (xg x), w496, .inl w497)), (w498, .inl (gZ (xg x), w499, .inl w500)), (a33, .inl (gI (xg x), 12, .inl w501)), (a34, .inl (gI (xg x), 27, .inl w502)), (a35, .inl (gI (xg x), 27, .inl w503)), (a36, .inl (gI (xg x), 60, .inl v42)), (a37, .inl (gI (xg x), 3, .inl v43)), (a38, .inl (gJ (xg x), 1, .inr (.inl w479)))] ++ ZP (xg x) a39 w480) (rest := []) (T := TX9) (c_X9_thrown (xl x) (xg x) a27 a28 a29 a30 a31 a32 w492 w495 w498 a33 a34 a35 a36 a37 w486 v20 w487 w488 w489 v24 h) gL_law_X9_thrown (by rfl) rfl rfl (by decide +kernel) ⟨⟨(Nat.le_of_ble_eq_true rfl), (Nat.le_of_ble_eq_true rfl)⟩, (Nat.le_trans (Nat.le_add_right _ _) hk.1), (Nat.le_trans (Nat.le_add_right _ _) hk.2)⟩ (Nat.le_of_ble_eq_true rfl) rfl rfl (sb_zr (sb_of [27, 0, 1, 2, 3, 4, 5, 6, 7, 8, 9, 10, 11, 12, 13, 14, 15, 16, 17, 18, 19, 20, 21, 22, 23, 24, 25, 26, 28, 29, 30, 31, 32, 33, 34, 35, 36, 37, 38, 39, 40, 41] rfl rfl)) rfl dL_law_1872 (fun v X1 hp => ?_)
    obtain ⟨r508, rfl, rfl, h⟩ := hp
    refine xw_X (sb_rz (sb_of [1, 2, 3, 4, 5, 6, 7, 8, 9, 10, 11, 12, 13, 14, 15, 16, 17, 18, 19, 20, 21, 22, 23, 24, 25, 26, 27, 0, 28, 29, 30, 31, 32, 33, 34, 35, 36, 37, 38, 39, 40, 41] rfl rfl)) (show ww x (W_L_law (xg x) a0 a1 a2 a3 a4 a5 a6 a7 a8 a9 a10 a11 a12 a13 a14 a15 a16 a17 a18 a19 a20 a21 a22 a23 a24 a25 a26 a27 a28 a29 a30 a31 a32 a33 a34 a35 a36 a37 a38 a39 ab v0 v1 v2 v3 v4 w476 v6 v7 w477 v9 w478 v11 v12 v13 v14 v15 v16 v17 v18 w486 v20 w487 w488 w489 v24 v25 w490 v27 v28 w491 w492 w493 w494 w495 w496 w497 w498 w499 w500 w501 w502 w503 v42 v43 w479 v46 v47 ++ ZP (xg x) a39 w480) [(6, .int r485), (5, .int r475), (0, .ref ab), (1, .ref a0), (2, .ref a27), (3, .ref a38), (4, .int z4)] (k0 + mc481 + mc504) (n0 + ms482 + ms505) 1875 [.int r508] from ?_)
    refine xw_iload hf (pc := 1875) dL_law_1875 1 rfl ?_
    refine xw_icmp_eq hf (pc := 1877) dL_law_1877 (tgt := 1882) rfl ⟨fun c => ?_, fun c => ?_⟩
    · have h := h.1 c
      refine xw_iload hf (pc := 1882) dL_law_1882 1 rfl ?_
      refine xw_if_ne hf (pc := 1884) dL_law_1884 (c := r475 = 0) Iff.rfl (tgt := 1899) rfl ⟨fun c => ?_, fun c => ?_⟩
      · have h := h.1 c
        refine xw_aload_n hf (pc := 1887) dL_law_1887 rfl 5 rfl ?_
        refine xw_iconst hf (pc := 1888) dL_law_1888 (v := 0) (by decide) ?_
        refine xw_lald hf (pc := 1889) dL_law_1889 41 rfl h.1 ?_
        have h := h.2
        refine xw_iload hf (pc := 1890) dL_law_1890 0 rfl ?_
        refine xw_i2l hf (pc := 1892) dL_law_1892 ?_
        refine xw_lcmp hf (pc := 1893) dL_law_1893 ?_
        refine xw_if_eq hf (pc := 1894) dL_law_1894 (c := (w479 (0 : Int32).toNatClampNeg) = r485.toInt64) (lc_eq _ _) (tgt := 1899) rfl ⟨fun c => ?_, fun c => ?_⟩
        · have h := h.1 c
          refine xw_goto hf (pc := 1899) dL_law_1899 (tgt := 2681) rfl ?_
          refine xw_L [2, 3, 4, 5, 6] rfl ?_
          exact hK2681 _ _ _ _ hk _ _ _ _ _ _ _ _ _ _ _ _ _ _ _ _ _ _ _ _ _ _ _ h
        · have h := h.2 c
          refine xw_iconst hf (pc := 1897) dL_law_1897 (v := 0) (by decide) ?_
          exact h.elim
      · have h := h.2 c
        refine xw_goto hf (pc := 1899) dL_law_1899 (tgt := 2681) rfl ?_
        refine xw_L [2, 3, 4, 5, 6] rfl ?_
        exact hK2681 _ _ _ _ hk _ _ _ _ _ _ _ _ _ _ _ _ _ _ _ _ _ _ _ _ _ _ _ h
    · have h := h.2 c
      refine xw_iconst hf (pc := 1880) dL_law_1880 (v := 0) (by decide) ?_
      exact h.elim
set_option maxHeartbeats 4000000 in
set_option maxRecDepth 100000 in
theorem w_L_law_L1902 {x : Cx} {mc ms : Nat} (hf : fx x (rm_L_law) RL cL_law wsL_law) (hn : xn x = 8) {k0 n0 rc rs : Nat} (hk : k0 + rc ≤ (rm_L_law).cells ∧ n0 + rs ≤ (rm_L_law).slots) (a0 a1 a2 a3 a4 a5 a6 a7 a8 a9 a10 a11 a12 a13 a14 a15 a16 a17 a18 a19 a20 a21 a22 a23 a24 a25 a26 a27 a28 a29 a30 a31 a32 a33 a34 a35 a36 a37 a38 a39 ab : Nat) (z4 : Int32) (v0 : Int32) (v1 : Nat → Int64) (v20 : Int32) (v21 : Int32) (v22 : Int32) (v25 : Nat → Int64) (v46 : Nat) (v47 : Nat → Int32) (v5 : Nat → Int32) (v6 : Nat → Int32) (v7 : Nat → Int32) (v8 : Int32) (v9 : Nat → Int32) (v10 : Nat → Int32) (v18 : Nat → Int32) (v26 : Nat → Int32) (v27 : Nat → Int32) (v28 : Nat → Int32) (v29 : Nat → Int32) (v30 : Nat) (v31 : Nat) (v32 : Nat → Int64) (v33 : Nat) (v34 : Nat) (v35 : Nat → Int32) (v36 : Nat) (v37 : Nat) (v38 : Nat → Int32) (v45 : ZL) {K2681 : Nat → Nat → Int32 → (Nat → Int64) → (Nat → Int32) → Int32 → Int32 → (Nat → Int32) → Int32 → (Nat → Int64) → Int32 → (Nat → Int64) → Int32 → Int32 → Int32 → (Nat → Int32) → (Nat → Int32) → (Nat → Int32) → (Nat → Int32) → (Nat → Int32) → (Nat → Int64) → Prop} (hst : (xl x).stackTraces = false) (hX : sX x ab v46 v47)
    (n : Nat) (v2 : Int32) (v3 : Nat → Int64) (v4 : Nat → Int32) (v11 : Int32) (v12 : Int32) (v13 : Nat → Int32) (v14 : Int32) (v15 : Nat → Int64) (v16 : Int32) (v17 : Nat → Int64) (v19 : Int32) (v23 : Int32) (v24 : Int32) (v39 : Nat → Int32) (v40 : Nat → Int32) (v41 : Nat → Int32) (v42 : Nat → Int32) (v43 : Nat → Int32) (v44 : Nat → Int64) (h : P_L_law_L1902 z4 v0 v1 v20 v21 v22 v25 v46 v47 K2681 n rc rs v2 v3 v4 v11 v12 v13 v14 v15 v16 v17 v19 v23 v24 v39 v40 v41 v42 v43 v44)
    (hK2681 : ∀ (k0 n0 rc rs : Nat), k0 + rc ≤ (rm_L_law).cells ∧ n0 + rs ≤ (rm_L_law).slots → ∀ (uv2 : Int32), ∀ (uv3 : Nat → Int64), ∀ (uv4 : Nat → Int32), ∀ (uv11 : Int32), ∀ (uv12 : Int32), ∀ (uv13 : Nat → Int32), ∀ (uv14 : Int32), ∀ (uv15 : Nat → Int64), ∀ (uv16 : Int32), ∀ (uv17 : Nat → Int64), ∀ (uv19 : Int32), ∀ (uv23 : Int32), ∀ (uv24 : Int32), ∀ (uv39 : Nat → Int32), ∀ (uv40 : Nat → Int32), ∀ (uv41 : Nat → Int32), ∀ (uv42 : Nat → Int32), ∀ (uv43 : Nat → Int32), ∀ (uv44 : Nat → Int64), K2681 rc rs uv2 uv3 uv4 uv11 uv12 uv13 uv14 uv15 uv16 uv17 uv19 uv23 uv24 uv39 uv40 uv41 uv42 uv43 uv44 → ww x (W_L_law (xg x) a0 a1 a2 a3 a4 a5 a6 a7 a8 a9 a10 a11 a12 a13 a14 a15 a16 a17 a18 a19 a20 a21 a22 a23 a24 a25 a26 a27 a28 a29 a30 a31 a32 a33 a34 a35 a36 a37 a38 a39 ab v0 v1 uv2 uv3 uv4 v5 v6 v7 v8 v9 v10 uv11 uv12 uv13 uv14 uv15 uv16 uv17 v18 uv19 v20 v21 v22 uv23 uv24 v25 v26 v27 v28 v29 v30 v31 v32 v33 v34 v35 v36 v37 v38 uv39 uv40 uv41 uv42 uv43 uv44 v46 v47 ++ ZP (xg x) a39 v45) [(0, .ref ab), (1, .ref a0), (2, .ref a27), (3, .ref a38), (4, .int z4)] k0 n0 2681 []) :
    ww x (W_L_law (xg x) a0 a1 a2 a3 a4 a5 a6 a7 a8 a9 a10 a11 a12 a13 a14 a15 a16 a17 a18 a19 a20 a21 a22 a23 a24 a25 a26 a27 a28 a29 a30 a31 a32 a33 a34 a35 a36 a37 a38 a39 ab v0 v1 v2 v3 v4 v5 v6 v7 v8 v9 v10 v11 v12 v13 v14 v15 v16 v17 v18 v19 v20 v21 v22 v23 v24 v25 v26 v27 v28 v29 v30 v31 v32 v33 v34 v35 v36 v37 v38 v39 v40 v41 v42 v43 v44 v46 v47 ++ ZP (xg x) a39 v45) [(0, .ref ab), (1, .ref a0), (2, .ref a27), (3, .ref a38), (4, .int z4)] k0 n0 1902 [] := by
  induction n generalizing k0 n0 rc rs v2 v3 v4 v11 v12 v13 v14 v15 v16 v17 v19 v23 v24 v39 v40 v41 v42 v43 v44 with
  | zero => exact h.elim
  | succ n ih =>
    unfold P_L_law_L1902 at h
    refine xw_aload_n hf (pc := 1902) dL_law_1902 rfl 1 rfl ?_
    refine xw_aload_n hf (pc := 1903) dL_law_1903 rfl 0 rfl ?_
    refine xw_iload hf (pc := 1904) dL_law_1904 4 rfl ?_
    refine xw_iconst hf (pc := 1906) dL_law_1906 (v := 1) (by decide) ?_
    refine xw_iadd hf (pc := 1907) dL_law_1907 ?_
    refine xw_sald hf hX dL_law_1908 h.1 ?_
    have h := h.2
    refine xw_i2l hf (pc := 1909) dL_law_1909 ?_
    refine xw_bipush hf (pc := 1910) dL_law_1910 (v := 32) (by decide) ?_
    refine xw_lshl hf (pc := 1912) dL_law_1912 ?_
    refine xw_aload_n hf (pc := 1913) dL_law_1913 rfl 0 rfl ?_
    refine xw_iload hf (pc := 1914) dL_law_1914 4 rfl ?_
    refine xw_iconst hf (pc := 1916) dL_law_1916 (v := 2) (by decide) ?_
    refine xw_iadd hf (pc := 1917) dL_law_1917 ?_
    refine xw_sald hf hX dL_law_1918 h.1 ?_
    have h := h.2
    refine xw_i2l hf (pc := 1919) dL_law_1919 ?_
    refine xw_ldc2 hf (pc := 1920) dL_law_1920 mw_L_law_0 ?_
    refine xw_land hf (pc := 1923) dL_law_1923 ?_
    refine xw_lor hf (pc := 1924) dL_law_1924 ?_
    refine xw_aload_n hf (pc := 1925) dL_law_1925 rfl 0 rfl ?_
    refine xw_iload hf (pc := 1926) dL_law_1926 4 rfl ?_
    refine xw_iconst hf (pc := 1928) dL_law_1928 (v := 3) (by decide) ?_
    refine xw_iadd hf (pc := 1929) dL_law_1929 ?_
    refine xw_sald hf hX dL_law_1930 h.1 ?_
    have h := h.2
    refine xw_aload_n hf (pc := 1931) dL_law_1931 rfl 3 rfl ?_
    obtain ⟨mc548, ms549, ⟨hb1, hb2⟩, h⟩ := h
    refine xw_callSW hf (pc := 1932) (nA := 4) (Xr := [(a8, .inr (6, [.ref a9, .ref a11, .ref a12])), (a9, .inr (3, [.ref a10])), (a10, .inl (gI (xg x), 32, .inl v5)), (a11, .inl (gI (xg x), 32, .inl v6)), (a12, .inl (gI (xg x), 32, .inl v7)), (a13, .inr (1, [.ref a39, .ref a14, .ref a16, .int v8])), (a14, .inr (3, [.ref a15])), (a15, .inl (gI (xg x), 32, .inl v9)), (a16, .inr (3, [.ref a17])), (a17, .inl (gI (xg x), 32, .inl v10)), (a25, .inr (3, [.ref a26])), (a26, .inl (gI (xg x), 32, .inl v18)), (a27, .inr (9, [.int v19, .ref a28, .int v20, .ref a29, .ref a30, .ref a31, .ref a32, .ref v30, .ref v33, .ref v36, .int v21, .int v22, .ref a33, .int v23, .ref a34, .ref a35, .ref a36, .ref a37, .int v24])), (a28, .inl (gJ (xg x), 60, .inr (.inl v25))), (a29, .inl (gI (xg x), 27, .inl v26)), (a30, .inl (gI (xg x), 27, .inl v27)), (a31, .inl (gI (xg x), 27, .inl v28)), (a32, .inl (gI (xg x), 27, .inl v29)), (v30, .inl (gJ (xg x), v31, .inr (.inl v32))), (v33, .inl (gI (xg x), v34, .inl v35)), (v36, .inl (gZ (xg x), v37, .inl v38)), (a33, .inl (gI (xg x), 12, .inl v39)), (a34, .inl (gI (xg x), 27, .inl v40)), (a35, .inl (gI (xg x), 27, .inl v41)), (a36, .inl (gI (xg x), 60, .inl v42)), (a37, .inl (gI (xg x), 3, .inl v43))] ++ ZP (xg x) a39 v45) (rest := []) (c_L_planLength (xl x) (xg x) hst a0 a1 a2 a3 a4 a5 a6 a7 a18 a19 a20 a21 a22 a23 a24 a38 a8 a13 a25 v0 v1 v2 v3 v4 v11 v12 v13 v14 v15 v16 v17 v44 ((((v47 (z4 + 1).toNatClampNeg).toInt64) <<< ((32 : Int32).toInt64 &&& 63)) ||| (((v47 (z4 + 2).toNatClampNeg).toInt64) &&& 4294967295)) (v47 (z4 + 3).toNatClampNeg) h) gL_law_L_planLength (by rfl) rfl (by decide +kernel) ⟨⟨(Nat.le_of_ble_eq_true rfl), (Nat.le_of_ble_eq_true rfl)⟩, (Nat.le_trans (show k0 + 2 ≤ k0 + rc by omega) hk.1), (Nat.le_trans (show n0 + 12 ≤ n0 + rs by omega) hk.2)⟩ (Nat.le_of_ble_eq_true rfl) (sb_zr (sb_of [0, 1, 2, 3, 4, 5, 6, 7, 18, 19, 20, 21, 22, 23, 24, 41, 8, 9, 10, 11, 12, 13, 14, 15, 16, 17, 25, 26, 27, 28, 29, 30, 31, 32, 33, 34, 35, 36, 37, 38, 39, 40] rfl rfl)) rfl dL_law_1932 (fun v X1 hp => ?_)
    obtain ⟨r536, w537, w538, w539, w540, w541, w542, w543, w544, w545, w546, w547, rfl, rfl, h⟩ := hp
    have hk : k0 + 2 + mc548 ≤ (rm_L_law).cells ∧ n0 + 12 + ms549 ≤ (rm_L_law).slots := ⟨Nat.le_trans (show k0 + 2 + mc548 ≤ k0 + rc by omega) hk.1, Nat.le_trans (show n0 + 12 + ms549 ≤ n0 + rs by omega) hk.2⟩
    refine xw_X (sb_rz (sb_of [0, 1, 2, 3, 4, 5, 6, 7, 16, 17, 18, 19, 20, 21, 22, 23, 24, 25, 8, 9, 10, 11, 12, 13, 14, 26, 27, 28, 29, 30, 31, 32, 33, 34, 35, 36, 37, 38, 39, 40, 41, 15] rfl rfl)) (show ww x (W_L_law (xg x) a0 a1 a2 a3 a4 a5 a6 a7 a8 a9 a10 a11 a12 a13 a14 a15 a16 a17 a18 a19 a20 a21 a22 a23 a24 a25 a26 a27 a28 a29 a30 a31 a32 a33 a34 a35 a36 a37 a38 a39 ab v0 v1 w537 w538 w539 v5 v6 v7 v8 v9 v10 w540 w541 w542 w543 w544 w545 w546 v18 v19 v20 v21 v22 v23 v24 v25 v26 v27 v28 v29 v30 v31 v32 v33 v34 v35 v36 v37 v38 v39 v40 v41 v42 v43 w547 v46 v47 ++ ZP (xg x) a39 v45) [(0, .ref ab), (1, .ref a0), (2, .ref a27), (3, .ref a38), (4, .int z4)] (k0 + 2) (n0 + 12) 1935 [.int r536] from ?_)
    refine xw_istore hf (pc := 1935) dL_law_1935 [(5, .int r536), (0, .ref ab), (1, .ref a0), (2, .ref a27), (3, .ref a38), (4, .int z4)] hn (by decide) rfl ?_
    refine xw_aload_n hf (pc := 1937) dL_law_1937 rfl 3 rfl ?_
    refine xw_aload_n hf (pc := 1938) dL_law_1938 rfl 1 rfl ?_
    refine xw_iload hf (pc := 1939) dL_law_1939 5 rfl ?_
    refine xw_iconst hf (pc := 1941) dL_law_1941 (v := 1) (by decide) ?_
    refine xw_iadd hf (pc := 1942) dL_law_1942 ?_
    refine xw_sald hf hX dL_law_1943 h.1 ?_
    have h := h.2
    refine xw_i2l hf (pc := 1944) dL_law_1944 ?_
    refine xw_bipush hf (pc := 1945) dL_law_1945 (v := 32) (by decide) ?_
    refine xw_lshl hf (pc := 1947) dL_law_1947 ?_
    refine xw_aload_n hf (pc := 1948) dL_law_1948 rfl 1 rfl ?_
    refine xw_iload hf (pc := 1949) dL_law_1949 5 rfl ?_
    refine xw_iconst hf (pc := 1951) dL_law_1951 (v := 2) (by decide) ?_
    refine xw_iadd hf (pc := 1952) dL_law_1952 ?_
    refine xw_sald hf hX dL_law_1953 h.1 ?_
    have h := h.2
    refine xw_i2l hf (pc := 1954) dL_law_1954 ?_
    refine xw_ldc2 hf (pc := 1955) dL_law_1955 mw_L_law_0 ?_
    refine xw_land hf (pc := 1958) dL_law_1958 ?_
    refine xw_lor hf (pc := 1959) dL_law_1959 ?_
    refine xw_aload_n hf (pc := 1960) dL_law_1960 rfl 1 rfl ?_
    refine xw_iload hf (pc := 1961) dL_law_1961 5 rfl ?_
    refine xw_iconst hf (pc := 1963) dL_law_1963 (v := 3) (by decide) ?_
    refine xw_iadd hf (pc := 1964) dL_law_1964 ?_
    refine xw_sald hf hX dL_law_1965 h.1 ?_
    have h := h.2
    refine xw_callV hf (pc := 1966) (nA := 2) (Xr := [(a0, .inr (8, [.ref a1, .ref a8, .ref a13, .ref a18, .ref a25])), (a1, .inr (2, [.ref a2, .ref a4, .ref a6])), (a2, .inr (7, [.ref a3, .int v0])), (a3, .inl (gJ (xg x), 60, .inr (.inl v1))), (a4, .inr (7, [.ref a5, .int w537])), (a5, .inl (gJ (xg x), 60, .inr (.inl w538))), (a6, .inr (3, [.ref a7])), (a7, .inl (gI (xg x), 32, .inl w539)), (a8, .inr (6, [.ref a9, .ref a11, .ref a12])), (a9, .inr (3, [.ref a10])), (a10, .inl (gI (xg x), 32, .inl v5)), (a11, .inl (gI (xg x), 32, .inl v6)), (a12, .inl (gI (xg x), 32, .inl v7)), (a13, .inr (1, [.ref a39, .ref a14, .ref a16, .int v8])), (a14, .inr (3, [.ref a15])), (a15, .inl (gI (xg x), 32, .inl v9)), (a16, .inr (3, [.ref a17])), (a17, .inl (gI (xg x), 32, .inl v10)), (a18, .inr (4, [.ref a19, .ref a21, .ref a23, .int w540, .int w541])), (a19, .inr (3, [.ref a20])), (a20, .inl (gI (xg x), 32, .inl w542)), (a21, .inr (7, [.ref a22, .int w543])), (a22, .inl (gJ (xg x), 60, .inr (.inl w544))), (a23, .inr (7, [.ref a24, .int w545])), (a24, .inl (gJ (xg x), 60, .inr (.inl w546))), (a25, .inr (3, [.ref a26])), (a26, .inl (gI (xg x), 32, .inl v18)), (a29, .inl (gI (xg x), 27, .inl v26)), (a30, .inl (gI (xg x), 27, .inl v27)), (a31, .inl (gI (xg x), 27, .inl v28)), (a32, .inl (gI (xg x), 27, .inl v29)), (v30, .inl (gJ (xg x), v31, .inr (.inl v32))), (v33, .inl (gI (xg x), v34, .inl v35)), (v36, .inl (gZ (xg x), v37, .inl v38)), (a38, .inl (gJ (xg x), 1, .inr (.inl w547)))] ++ ZP (xg x) a39 v45) (rest := []) (T := TX9) (c_X9_planLength (xl x) (xg x) a27 a28 a33 a34 a35 a36 a37 a29 a30 a31 a32 v30 v33 v36 v19 v20 v21 v22 v23 v24 v25 v39 v40 v41 v42 v43 ((((v47 (z4 + 1).toNatClampNeg).toInt64) <<< ((32 : Int32).toInt64 &&& 63)) ||| (((v47 (z4 + 2).toNatClampNeg).toInt64) &&& 4294967295)) (v47 (z4 + 3).toNatClampNeg) h) gL_law_X9_planLength (by rfl) rfl rfl (by decide +kernel) ⟨⟨(Nat.le_of_ble_eq_true rfl), (Nat.le_of_ble_eq_true rfl)⟩, (Nat.le_trans (Nat.le_add_right _ _) hk.1), (Nat.le_trans (Nat.le_add_right _ _) hk.2)⟩ (Nat.le_of_ble_eq_true rfl) rfl rfl (sb_zr (sb_of [27, 28, 36, 37, 38, 39, 40, 0, 1, 2, 3, 4, 5, 6, 7, 8, 9, 10, 11, 12, 13, 14, 15, 16, 17, 18, 19, 20, 21, 22, 23, 24, 25, 26, 29, 30, 31, 32, 33, 34, 35, 41] rfl rfl)) rfl dL_law_1966 (fun v X1 hp => ?_)
    obtain ⟨r550, w551, w552, w553, w554, w555, w556, w557, w558, rfl, rfl, h⟩ := hp
    refine xw_X (sb_rz (sb_of [7, 8, 9, 10, 11, 12, 13, 14, 15, 16, 17, 18, 19, 20, 21, 22, 23, 24, 25, 26, 27, 28, 29, 30, 31, 32, 33, 0, 1, 34, 35, 36, 37, 38, 39, 40, 2, 3, 4, 5, 6, 41] rfl rfl)) (show ww x (W_L_law (xg x) a0 a1 a2 a3 a4 a5 a6 a7 a8 a9 a10 a11 a12 a13 a14 a15 a16 a17 a18 a19 a20 a21 a22 a23 a24 a25 a26 a27 a28 a29 a30 a31 a32 a33 a34 a35 a36 a37 a38 a39 ab v0 v1 w537 w538 w539 v5 v6 v7 v8 v9 v10 w540 w541 w542 w543 w544 w545 w546 v18 w551 v20 v21 v22 w552 w553 v25 v26 v27 v28 v29 v30 v31 v32 v33 v34 v35 v36 v37 v38 w554 w555 w556 w557 w558 w547 v46 v47 ++ ZP (xg x) a39 v45) [(5, .int r536), (0, .ref ab), (1, .ref a0), (2, .ref a27), (3, .ref a38), (4, .int z4)] (k0 + 2) (n0 + 12) 1969 [.int r550] from ?_)
    refine xw_istore hf (pc := 1969) dL_law_1969 [(6, .int r550), (5, .int r536), (0, .ref ab), (1, .ref a0), (2, .ref a27), (3, .ref a38), (4, .int z4)] hn (by decide) rfl ?_
    refine xw_aload_n hf (pc := 1971) dL_law_1971 rfl 4 rfl ?_
    refine xw_callV hf (pc := 1972) (nA := 0) (Xr := [(a0, .inr (8, [.ref a1, .ref a8, .ref a13, .ref a18, .ref a25])), (a1, .inr (2, [.ref a2, .ref a4, .ref a6])), (a2, .inr (7, [.ref a3, .int v0])), (a3, .inl (gJ (xg x), 60, .inr (.inl v1))), (a4, .inr (7, [.ref a5, .int w537])), (a5, .inl (gJ (xg x), 60, .inr (.inl w538))), (a6, .inr (3, [.ref a7])), (a7, .inl (gI (xg x), 32, .inl w539)), (a8, .inr (6, [.ref a9, .ref a11, .ref a12])), (a9, .inr (3, [.ref a10])), (a10, .inl (gI (xg x), 32, .inl v5)), (a11, .inl (gI (xg x), 32, .inl v6)), (a12, .inl (gI (xg x), 32, .inl v7)), (a13, .inr (1, [.ref a39, .ref a14, .ref a16, .int v8])), (a14, .inr (3, [.ref a15])), (a15, .inl (gI (xg x), 32, .inl v9)), (a16, .inr (3, [.ref a17])), (a17, .inl (gI (xg x), 32, .inl v10)), (a18, .inr (4, [.ref a19, .ref a21, .ref a23, .int w540, .int w541])), (a19, .inr (3, [.ref a20])), (a20, .inl (gI (xg x), 32, .inl w542)), (a21, .inr (7, [.ref a22, .int w543])), (a22, .inl (gJ (xg x), 60, .inr (.inl w544))), (a23, .inr (7, [.ref a24, .int w545])), (a24, .inl (gJ (xg x), 60, .inr (.inl w546))), (a25, .inr (3, [.ref a26])), (a26, .inl (gI (xg x), 32, .inl v18)), (a28, .inl (gJ (xg x), 60, .inr (.inl v25))), (a29, .inl (gI (xg x), 27, .inl v26)), (a30, .inl (gI (xg x), 27, .inl v27)), (a31, .inl (gI (xg x), 27, .inl v28)), (a32, .inl (gI (xg x), 27, .inl v29)), (v30, .inl (gJ (xg x), v31, .inr (.inl v32))), (v33, .inl (gI (xg x), v34, .inl v35)), (v36, .inl (gZ (xg x), v37, .inl v38)), (a33, .inl (gI (xg x), 12, .inl w554)), (a34, .inl (gI (xg x), 27, .inl w555)), (a35, .inl (gI (xg x), 27, .inl w556)), (a36, .inl (gI (xg x), 60, .inl w557)), (a37, .inl (gI (xg x), 3, .inl w558)), (a38, .inl (gJ (xg x), 1, .inr (.inl w547)))] ++ ZP (xg x) a39 v45) (rest := []) (T := TX9) (c_X9_thrown (xl x) (xg x) a27 a28 a29 a30 a31 a32 v30 v33 v36 a33 a34 a35 a36 a37 w551 v20 v21 v22 w552 w553 h) gL_law_X9_thrown (by rfl) rfl rfl (by decide +kernel) ⟨⟨(Nat.le_of_ble_eq_true rfl), (Nat.le_of_ble_eq_true rfl)⟩, (Nat.le_trans (Nat.le_add_right _ _) hk.1), (Nat.le_trans (Nat.le_add_right _ _) hk.2)⟩ (Nat.le_of_ble_eq_true rfl) rfl rfl (sb_zr (sb_of [27, 0, 1, 2, 3, 4, 5, 6, 7, 8, 9, 10, 11, 12, 13, 14, 15, 16, 17, 18, 19, 20, 21, 22, 23, 24, 25, 26, 28, 29, 30, 31, 32, 33, 34, 35, 36, 37, 38, 39, 40, 41] rfl rfl)) rfl dL_law_1972 (fun v X1 hp => ?_)
    obtain ⟨r559, rfl, rfl, h⟩ := hp
    refine xw_X (sb_rz (sb_of [1, 2, 3, 4, 5, 6, 7, 8, 9, 10, 11, 12, 13, 14, 15, 16, 17, 18, 19, 20, 21, 22, 23, 24, 25, 26, 27, 0, 28, 29, 30, 31, 32, 33, 34, 35, 36, 37, 38, 39, 40, 41] rfl rfl)) (show ww x (W_L_law (xg x) a0 a1 a2 a3 a4 a5 a6 a7 a8 a9 a10 a11 a12 a13 a14 a15 a16 a17 a18 a19 a20 a21 a22 a23 a24 a25 a26 a27 a28 a29 a30 a31 a32 a33 a34 a35 a36 a37 a38 a39 ab v0 v1 w537 w538 w539 v5 v6 v7 v8 v9 v10 w540 w541 w542 w543 w544 w545 w546 v18 w551 v20 v21 v22 w552 w553 v25 v26 v27 v28 v29 v30 v31 v32 v33 v34 v35 v36 v37 v38 w554 w555 w556 w557 w558 w547 v46 v47 ++ ZP (xg x) a39 v45) [(6, .int r550), (5, .int r536), (0, .ref ab), (1, .ref a0), (2, .ref a27), (3, .ref a38), (4, .int z4)] (k0 + 2) (n0 + 12) 1975 [.int r559] from ?_)
    refine xw_iload hf (pc := 1975) dL_law_1975 1 rfl ?_
    refine xw_icmp_eq hf (pc := 1977) dL_law_1977 (tgt := 1982) rfl ⟨fun c => ?_, fun c => ?_⟩
    · have h := h.1 c
      refine xw_iload hf (pc := 1982) dL_law_1982 1 rfl ?_
      refine xw_if_ne hf (pc := 1984) dL_law_1984 (c := r536 = 0) Iff.rfl (tgt := 1999) rfl ⟨fun c => ?_, fun c => ?_⟩
      · have h := h.1 c
        refine xw_aload_n hf (pc := 1987) dL_law_1987 rfl 5 rfl ?_
        refine xw_iconst hf (pc := 1988) dL_law_1988 (v := 0) (by decide) ?_
        refine xw_lald hf (pc := 1989) dL_law_1989 41 rfl h.1 ?_
        have h := h.2
        refine xw_iload hf (pc := 1990) dL_law_1990 0 rfl ?_
        refine xw_i2l hf (pc := 1992) dL_law_1992 ?_
        refine xw_lcmp hf (pc := 1993) dL_law_1993 ?_
        refine xw_if_eq hf (pc := 1994) dL_law_1994 (c := (w547 (0 : Int32).toNatClampNeg) = r550.toInt64) (lc_eq _ _) (tgt := 1999) rfl ⟨fun c => ?_, fun c => ?_⟩
        · have h := h.1 c
          refine xw_goto hf (pc := 1999) dL_law_1999 (tgt := 2681) rfl ?_
          refine xw_L [2, 3, 4, 5, 6] rfl ?_
          exact hK2681 _ _ _ _ hk _ _ _ _ _ _ _ _ _ _ _ _ _ _ _ _ _ _ _ h
        · have h := h.2 c
          refine xw_iconst hf (pc := 1997) dL_law_1997 (v := 0) (by decide) ?_
          exact h.elim
      · have h := h.2 c
        refine xw_goto hf (pc := 1999) dL_law_1999 (tgt := 2681) rfl ?_
        refine xw_L [2, 3, 4, 5, 6] rfl ?_
        exact hK2681 _ _ _ _ hk _ _ _ _ _ _ _ _ _ _ _ _ _ _ _ _ _ _ _ h
    · have h := h.2 c
      refine xw_iconst hf (pc := 1980) dL_law_1980 (v := 0) (by decide) ?_
      exact h.elim
set_option maxHeartbeats 4000000 in
set_option maxRecDepth 100000 in
theorem w_L_law_L2002 {x : Cx} {mc ms : Nat} (hf : fx x (rm_L_law) RL cL_law wsL_law) (hn : xn x = 8) {k0 n0 rc rs : Nat} (hk : k0 + rc ≤ (rm_L_law).cells ∧ n0 + rs ≤ (rm_L_law).slots) (a0 a1 a2 a3 a4 a5 a6 a7 a8 a9 a10 a11 a12 a13 a14 a15 a16 a17 a18 a19 a20 a21 a22 a23 a24 a25 a26 a27 a28 a29 a30 a31 a32 a33 a34 a35 a36 a37 a38 a39 ab : Nat) (z4 : Int32) (v0 : Int32) (v1 : Nat → Int64) (v20 : Int32) (v21 : Int32) (v22 : Int32) (v25 : Nat → Int64) (v46 : Nat) (v47 : Nat → Int32) (v5 : Nat → Int32) (v6 : Nat → Int32) (v7 : Nat → Int32) (v8 : Int32) (v9 : Nat → Int32) (v10 : Nat → Int32) (v18 : Nat → Int32) (v26 : Nat → Int32) (v27 : Nat → Int32) (v28 : Nat → Int32) (v29 : Nat → Int32) (v30 : Nat) (v31 : Nat) (v32 : Nat → Int64) (v33 : Nat) (v34 : Nat) (v35 : Nat → Int32) (v36 : Nat) (v37 : Nat) (v38 : Nat → Int32) (v45 : ZL) {K2681 : Nat → Nat → Int32 → (Nat → Int64) → (Nat → Int32) → Int32 → Int32 → (Nat → Int32) → Int32 → (Nat → Int64) → Int32 → (Nat → Int64) → Int32 → Int32 → Int32 → (Nat → Int32) → (Nat → Int32) → (Nat → Int32) → (Nat → Int32) → (Nat → Int32) → (Nat → Int64) → Prop} (hst : (xl x).stackTraces = false) (hX : sX x ab v46 v47)
    (n : Nat) (v2 : Int32) (v3 : Nat → Int64) (v4 : Nat → Int32) (v11 : Int32) (v12 : Int32) (v13 : Nat → Int32) (v14 : Int32) (v15 : Nat → Int64) (v16 : Int32) (v17 : Nat → Int64) (v19 : Int32) (v23 : Int32) (v24 : Int32) (v39 : Nat → Int32) (v40 : Nat → Int32) (v41 : Nat → Int32) (v42 : Nat → Int32) (v43 : Nat → Int32) (v44 : Nat → Int64) (h : P_L_law_L2002 z4 v0 v1 v20 v21 v22 v25 v46 v47 K2681 n rc rs v2 v3 v4 v11 v12 v13 v14 v15 v16 v17 v19 v23 v24 v39 v40 v41 v42 v43 v44)
    (hK2681 : ∀ (k0 n0 rc rs : Nat), k0 + rc ≤ (rm_L_law).cells ∧ n0 + rs ≤ (rm_L_law).slots → ∀ (uv2 : Int32), ∀ (uv3 : Nat → Int64), ∀ (uv4 : Nat → Int32), ∀ (uv11 : Int32), ∀ (uv12 : Int32), ∀ (uv13 : Nat → Int32), ∀ (uv14 : Int32), ∀ (uv15 : Nat → Int64), ∀ (uv16 : Int32), ∀ (uv17 : Nat → Int64), ∀ (uv19 : Int32), ∀ (uv23 : Int32), ∀ (uv24 : Int32), ∀ (uv39 : Nat → Int32), ∀ (uv40 : Nat → Int32), ∀ (uv41 : Nat → Int32), ∀ (uv42 : Nat → Int32), ∀ (uv43 : Nat → Int32), ∀ (uv44 : Nat → Int64), K2681 rc rs uv2 uv3 uv4 uv11 uv12 uv13 uv14 uv15 uv16 uv17 uv19 uv23 uv24 uv39 uv40 uv41 uv42 uv43 uv44 → ww x (W_L_law (xg x) a0 a1 a2 a3 a4 a5 a6 a7 a8 a9 a10 a11 a12 a13 a14 a15 a16 a17 a18 a19 a20 a21 a22 a23 a24 a25 a26 a27 a28 a29 a30 a31 a32 a33 a34 a35 a36 a37 a38 a39 ab v0 v1 uv2 uv3 uv4 v5 v6 v7 v8 v9 v10 uv11 uv12 uv13 uv14 uv15 uv16 uv17 v18 uv19 v20 v21 v22 uv23 uv24 v25 v26 v27 v28 v29 v30 v31 v32 v33 v34 v35 v36 v37 v38 uv39 uv40 uv41 uv42 uv43 uv44 v46 v47 ++ ZP (xg x) a39 v45) [(0, .ref ab), (1, .ref a0), (2, .ref a27), (3, .ref a38), (4, .int z4)] k0 n0 2681 []) :
    ww x (W_L_law (xg x) a0 a1 a2 a3 a4 a5 a6 a7 a8 a9 a10 a11 a12 a13 a14 a15 a16 a17 a18 a19 a20 a21 a22 a23 a24 a25 a26 a27 a28 a29 a30 a31 a32 a33 a34 a35 a36 a37 a38 a39 ab v0 v1 v2 v3 v4 v5 v6 v7 v8 v9 v10 v11 v12 v13 v14 v15 v16 v17 v18 v19 v20 v21 v22 v23 v24 v25 v26 v27 v28 v29 v30 v31 v32 v33 v34 v35 v36 v37 v38 v39 v40 v41 v42 v43 v44 v46 v47 ++ ZP (xg x) a39 v45) [(0, .ref ab), (1, .ref a0), (2, .ref a27), (3, .ref a38), (4, .int z4)] k0 n0 2002 [] := by
  induction n generalizing k0 n0 rc rs v2 v3 v4 v11 v12 v13 v14 v15 v16 v17 v19 v23 v24 v39 v40 v41 v42 v43 v44 with
  | zero => exact h.elim
  | succ n ih =>
    unfold P_L_law_L2002 at h
    refine xw_aload_n hf (pc := 2002) dL_law_2002 rfl 1 rfl ?_
    refine xw_aload_n hf (pc := 2003) dL_law_2003 rfl 0 rfl ?_
    refine xw_iload hf (pc := 2004) dL_law_2004 4 rfl ?_
    refine xw_iconst hf (pc := 2006) dL_law_2006 (v := 1) (by decide) ?_
    refine xw_iadd hf (pc := 2007) dL_law_2007 ?_
    refine xw_sald hf hX dL_law_2008 h.1 ?_
    have h := h.2
    refine xw_i2l hf (pc := 2009) dL_law_2009 ?_
    refine xw_bipush hf (pc := 2010) dL_law_2010 (v := 32) (by decide) ?_
    refine xw_lshl hf (pc := 2012) dL_law_2012 ?_
    refine xw_aload_n hf (pc := 2013) dL_law_2013 rfl 0 rfl ?_
    refine xw_iload hf (pc := 2014) dL_law_2014 4 rfl ?_
    refine xw_iconst hf (pc := 2016) dL_law_2016 (v := 2) (by decide) ?_
    refine xw_iadd hf (pc := 2017) dL_law_2017 ?_
    refine xw_sald hf hX dL_law_2018 h.1 ?_
    have h := h.2
    refine xw_i2l hf (pc := 2019) dL_law_2019 ?_
    refine xw_ldc2 hf (pc := 2020) dL_law_2020 mw_L_law_0 ?_
    refine xw_land hf (pc := 2023) dL_law_2023 ?_
    refine xw_lor hf (pc := 2024) dL_law_2024 ?_
    refine xw_aload_n hf (pc := 2025) dL_law_2025 rfl 0 rfl ?_
    refine xw_iload hf (pc := 2026) dL_law_2026 4 rfl ?_
    refine xw_iconst hf (pc := 2028) dL_law_2028 (v := 3) (by decide) ?_
    refine xw_iadd hf (pc := 2029) dL_law_2029 ?_
    refine xw_sald hf hX dL_law_2030 h.1 ?_
    have h := h.2
    refine xw_aload_n hf (pc := 2031) dL_law_2031 rfl 0 rfl ?_
    refine xw_iload hf (pc := 2032) dL_law_2032 4 rfl ?_
    refine xw_iconst hf (pc := 2034) dL_law_2034 (v := 4) (by decide) ?_
    refine xw_iadd hf (pc := 2035) dL_law_2035 ?_
    refine xw_sald hf hX dL_law_2036 h.1 ?_
    have h := h.2
    refine xw_aload_n hf (pc := 2037) dL_law_2037 rfl 3 rfl ?_
    obtain ⟨mc595, ms596, ⟨hb1, hb2⟩, h⟩ := h
    refine xw_callSW hf (pc := 2038) (nA := 5) (Xr := [(a8, .inr (6, [.ref a9, .ref a11, .ref a12])), (a9, .inr (3, [.ref a10])), (a10, .inl (gI (xg x), 32, .inl v5)), (a11, .inl (gI (xg x), 32, .inl v6)), (a12, .inl (gI (xg x), 32, .inl v7)), (a13, .inr (1, [.ref a39, .ref a14, .ref a16, .int v8])), (a14, .inr (3, [.ref a15])), (a15, .inl (gI (xg x), 32, .inl v9)), (a16, .inr (3, [.ref a17])), (a17, .inl (gI (xg x), 32, .inl v10)), (a25, .inr (3, [.ref a26])), (a26, .inl (gI (xg x), 32, .inl v18)), (a27, .inr (9, [.int v19, .ref a28, .int v20, .ref a29, .ref a30, .ref a31, .ref a32, .ref v30, .ref v33, .ref v36, .int v21, .int v22, .ref a33, .int v23, .ref a34, .ref a35, .ref a36, .ref a37, .int v24])), (a28, .inl (gJ (xg x), 60, .inr (.inl v25))), (a29, .inl (gI (xg x), 27, .inl v26)), (a30, .inl (gI (xg x), 27, .inl v27)), (a31, .inl (gI (xg x), 27, .inl v28)), (a32, .inl (gI (xg x), 27, .inl v29)), (v30, .inl (gJ (xg x), v31, .inr (.inl v32))), (v33, .inl (gI (xg x), v34, .inl v35)), (v36, .inl (gZ (xg x), v37, .inl v38)), (a33, .inl (gI (xg x), 12, .inl v39)), (a34, .inl (gI (xg x), 27, .inl v40)), (a35, .inl (gI (xg x), 27, .inl v41)), (a36, .inl (gI (xg x), 60, .inl v42)), (a37, .inl (gI (xg x), 3, .inl v43))] ++ ZP (xg x) a39 v45) (rest := []) (c_L_planWord (xl x) (xg x) hst a0 a1 a2 a3 a4 a5 a6 a7 a18 a19 a20 a21 a22 a23 a24 a38 a8 a13 a25 v0 v1 v2 v3 v4 v11 v12 v13 v14 v15 v16 v17 v44 ((((v47 (z4 + 1).toNatClampNeg).toInt64) <<< ((32 : Int32).toInt64 &&& 63)) ||| (((v47 (z4 + 2).toNatClampNeg).toInt64) &&& 4294967295)) (v47 (z4 + 3).toNatClampNeg) (v47 (z4 + 4).toNatClampNeg) h) gL_law_L_planWord (by rfl) rfl (by decide +kernel) ⟨⟨(Nat.le_of_ble_eq_true rfl), (Nat.le_of_ble_eq_true rfl)⟩, (Nat.le_trans (show k0 + 3 ≤ k0 + rc by omega) hk.1), (Nat.le_trans (show n0 + 18 ≤ n0 + rs by omega) hk.2)⟩ (Nat.le_of_ble_eq_true rfl) (sb_zr (sb_of [0, 1, 2, 3, 4, 5, 6, 7, 18, 19, 20, 21, 22, 23, 24, 41, 8, 9, 10, 11, 12, 13, 14, 15, 16, 17, 25, 26, 27, 28, 29, 30, 31, 32, 33, 34, 35, 36, 37, 38, 39, 40] rfl rfl)) rfl dL_law_2038 (fun v X1 hp => ?_)
    obtain ⟨r583, w584, w585, w586, w587, w588, w589, w590, w591, w592, w593, w594, rfl, rfl, h⟩ := hp
    have hk : k0 + 3 + mc595 ≤ (rm_L_law).cells ∧ n0 + 18 + ms596 ≤ (rm_L_law).slots := ⟨Nat.le_trans (show k0 + 3 + mc595 ≤ k0 + rc by omega) hk.1, Nat.le_trans (show n0 + 18 + ms596 ≤ n0 + rs by omega) hk.2⟩
    refine xw_X (sb_rz (sb_of [0, 1, 2, 3, 4, 5, 6, 7, 16, 17, 18, 19, 20, 21, 22, 23, 24, 25, 8, 9, 10, 11, 12, 13, 14, 26, 27, 28, 29, 30, 31, 32, 33, 34, 35, 36, 37, 38, 39, 40, 41, 15] rfl rfl)) (show ww x (W_L_law (xg x) a0 a1 a2 a3 a4 a5 a6 a7 a8 a9 a10 a11 a12 a13 a14 a15 a16 a17 a18 a19 a20 a21 a22 a23 a24 a25 a26 a27 a28 a29 a30 a31 a32 a33 a34 a35 a36 a37 a38 a39 ab v0 v1 w584 w585 w586 v5 v6 v7 v8 v9 v10 w587 w588 w589 w590 w591 w592 w593 v18 v19 v20 v21 v22 v23 v24 v25 v26 v27 v28 v29 v30 v31 v32 v33 v34 v35 v36 v37 v38 v39 v40 v41 v42 v43 w594 v46 v47 ++ ZP (xg x) a39 v45) [(0, .ref ab), (1, .ref a0), (2, .ref a27), (3, .ref a38), (4, .int z4)] (k0 + 3) (n0 + 18) 2041 [.int r583] from ?_)
    refine xw_istore hf (pc := 2041) dL_law_2041 [(5, .int r583), (0, .ref ab), (1, .ref a0), (2, .ref a27), (3, .ref a38), (4, .int z4)] hn (by decide) rfl ?_
    refine xw_aload_n hf (pc := 2043) dL_law_2043 rfl 3 rfl ?_
    refine xw_aload_n hf (pc := 2044) dL_law_2044 rfl 1 rfl ?_
    refine xw_iload hf (pc := 2045) dL_law_2045 5 rfl ?_
    refine xw_iconst hf (pc := 2047) dL_law_2047 (v := 1) (by decide) ?_
    refine xw_iadd hf (pc := 2048) dL_law_2048 ?_
    refine xw_sald hf hX dL_law_2049 h.1 ?_
    have h := h.2
    refine xw_i2l hf (pc := 2050) dL_law_2050 ?_
    refine xw_bipush hf (pc := 2051) dL_law_2051 (v := 32) (by decide) ?_
    refine xw_lshl hf (pc := 2053) dL_law_2053 ?_
    refine xw_aload_n hf (pc := 2054) dL_law_2054 rfl 1 rfl ?_
    refine xw_iload hf (pc := 2055) dL_law_2055 5 rfl ?_
    refine xw_iconst hf (pc := 2057) dL_law_2057 (v := 2) (by decide) ?_
    refine xw_iadd hf (pc := 2058) dL_law_2058 ?_
    refine xw_sald hf hX dL_law_2059 h.1 ?_
    have h := h.2
    refine xw_i2l hf (pc := 2060) dL_law_2060 ?_
    refine xw_ldc2 hf (pc := 2061) dL_law_2061 mw_L_law_0 ?_
    refine xw_land hf (pc := 2064) dL_law_2064 ?_
    refine xw_lor hf (pc := 2065) dL_law_2065 ?_
    refine xw_aload_n hf (pc := 2066) dL_law_2066 rfl 1 rfl ?_
    refine xw_iload hf (pc := 2067) dL_law_2067 5 rfl ?_
    refine xw_iconst hf (pc := 2069) dL_law_2069 (v := 3) (by decide) ?_
    refine xw_iadd hf (pc := 2070) dL_law_2070 ?_
    refine xw_sald hf hX dL_law_2071 h.1 ?_
    have h := h.2
    refine xw_aload_n hf (pc := 2072) dL_law_2072 rfl 1 rfl ?_
    refine xw_iload hf (pc := 2073) dL_law_2073 5 rfl ?_
    refine xw_iconst hf (pc := 2075) dL_law_2075 (v := 4) (by decide) ?_
    refine xw_iadd hf (pc := 2076) dL_law_2076 ?_
    refine xw_sald hf hX dL_law_2077 h.1 ?_
    have h := h.2
    refine xw_callV hf (pc := 2078) (nA := 3) (Xr := [(a0, .inr (8, [.ref a1, .ref a8, .ref a13, .ref a18, .ref a25])), (a1, .inr (2, [.ref a2, .ref a4, .ref a6])), (a2, .inr (7, [.ref a3, .int v0])), (a3, .inl (gJ (xg x), 60, .inr (.inl v1))), (a4, .inr (7, [.ref a5, .int w584])), (a5, .inl (gJ (xg x), 60, .inr (.inl w585))), (a6, .inr (3, [.ref a7])), (a7, .inl (gI (xg x), 32, .inl w586)), (a8, .inr (6, [.ref a9, .ref a11, .ref a12])), (a9, .inr (3, [.ref a10])), (a10, .inl (gI (xg x), 32, .inl v5)), (a11, .inl (gI (xg x), 32, .inl v6)), (a12, .inl (gI (xg x), 32, .inl v7)), (a13, .inr (1, [.ref a39, .ref a14, .ref a16, .int v8])), (a14, .inr (3, [.ref a15])), (a15, .inl (gI (xg x), 32, .inl v9)), (a16, .inr (3, [.ref a17])), (a17, .inl (gI (xg x), 32, .inl v10)), (a18, .inr (4, [.ref a19, .ref a21, .ref a23, .int w587, .int w588])), (a19, .inr (3, [.ref a20])), (a20, .inl (gI (xg x), 32, .inl w589)), (a21, .inr (7, [.ref a22, .int w590])), (a22, .inl (gJ (xg x), 60, .inr (.inl w591))), (a23, .inr (7, [.ref a24, .int w592])), (a24, .inl (gJ (xg x), 60, .inr (.inl w593))), (a25, .inr (3, [.ref a26])), (a26, .inl (gI (xg x), 32, .inl v18)), (a29, .inl (gI (xg x), 27, .inl v26)), (a30, .inl (gI (xg x), 27, .inl v27)), (a31, .inl (gI (xg x), 27, .inl v28)), (a32, .inl (gI (xg x), 27, .inl v29)), (v30, .inl (gJ (xg x), v31, .inr (.inl v32))), (v33, .inl (gI (xg x), v34, .inl v35)), (v36, .inl (gZ (xg x), v37, .inl v38)), (a38, .inl (gJ (xg x), 1, .inr (.inl w594)))] ++ ZP (xg x) a39 v45) (rest := []) (T := TX9) (c_X9_planWord (xl x) (xg x) a27 a28 a33 a34 a35 a36 a37 a29 a30 a31 a32 v30 v33 v36 v19 v20 v21 v22 v23 v24 v25 v39 v40 v41 v42 v43 ((((v47 (z4 + 1).toNatClampNeg).toInt64) <<< ((32 : Int32).toInt64 &&& 63)) ||| (((v47 (z4 + 2).toNatClampNeg).toInt64) &&& 4294967295)) (v47 (z4 + 3).toNatClampNeg) (v47 (z4 + 4).toNatClampNeg) h) gL_law_X9_planWord (by rfl) rfl rfl (by decide +kernel) ⟨⟨(Nat.le_of_ble_eq_true rfl), (Nat.le_of_ble_eq_true rfl)⟩, (Nat.le_trans (Nat.le_add_right _ _) hk.1), (Nat.le_trans (Nat.le_add_right _ _) hk.2)⟩ (Nat.le_of_ble_eq_true rfl) rfl rfl (sb_zr (sb_of [27, 28, 36, 37, 38, 39, 40, 0, 1, 2, 3, 4, 5, 6, 7, 8, 9, 10, 11, 12, 13, 14, 15, 16, 17, 18, 19, 20, 21, 22, 23, 24, 25, 26, 29, 30, 31, 32, 33, 34, 35, 41] rfl rfl)) rfl dL_law_2078 (fun v X1 hp => ?_)
    obtain ⟨r597, w598, w599, w600, w601, w602, w603, w604, w605, rfl, rfl, h⟩ := hp
    refine xw_X (sb_rz (sb_of [7, 8, 9, 10, 11, 12, 13, 14, 15, 16, 17, 18, 19, 20, 21, 22, 23, 24, 25, 26, 27, 28, 29, 30, 31, 32, 33, 0, 1, 34, 35, 36, 37, 38, 39, 40, 2, 3, 4, 5, 6, 41] rfl rfl)) (show ww x (W_L_law (xg x) a0 a1 a2 a3 a4 a5 a6 a7 a8 a9 a10 a11 a12 a13 a14 a15 a16 a17 a18 a19 a20 a21 a22 a23 a24 a25 a26 a27 a28 a29 a30 a31 a32 a33 a34 a35 a36 a37 a38 a39 ab v0 v1 w584 w585 w586 v5 v6 v7 v8 v9 v10 w587 w588 w589 w590 w591 w592 w593 v18 w598 v20 v21 v22 w599 w600 v25 v26 v27 v28 v29 v30 v31 v32 v33 v34 v35 v36 v37 v38 w601 w602 w603 w604 w605 w594 v46 v47 ++ ZP (xg x) a39 v45) [(5, .int r583), (0, .ref ab), (1, .ref a0), (2, .ref a27), (3, .ref a38), (4, .int z4)] (k0 + 3) (n0 + 18) 2081 [.long r597] from ?_)
    refine xw_lstore hf (pc := 2081) dL_law_2081 [(6, .long r597), (5, .int r583), (0, .ref ab), (1, .ref a0), (2, .ref a27), (3, .ref a38), (4, .int z4)] hn (by decide) rfl ?_
    refine xw_aload_n hf (pc := 2083) dL_law_2083 rfl 4 rfl ?_
    refine xw_callV hf (pc := 2084) (nA := 0) (Xr := [(a0, .inr (8, [.ref a1, .ref a8, .ref a13, .ref a18, .ref a25])), (a1, .inr (2, [.ref a2, .ref a4, .ref a6])), (a2, .inr (7, [.ref a3, .int v0])), (a3, .inl (gJ (xg x), 60, .inr (.inl v1))), (a4, .inr (7, [.ref a5, .int w584])), (a5, .inl (gJ (xg x), 60, .inr (.inl w585))), (a6, .inr (3, [.ref a7])), (a7, .inl (gI (xg x), 32, .inl w586)), (a8, .inr (6, [.ref a9, .ref a11, .ref a12])), (a9, .inr (3, [.ref a10])), (a10, .inl (gI (xg x), 32, .inl v5)), (a11, .inl (gI (xg x), 32, .inl v6)), (a12, .inl (gI (xg x), 32, .inl v7)), (a13, .inr (1, [.ref a39, .ref a14, .ref a16, .int v8])), (a14, .inr (3, [.ref a15])), (a15, .inl (gI (xg x), 32, .inl v9)), (a16, .inr (3, [.ref a17])), (a17, .inl (gI (xg x), 32, .inl v10)), (a18, .inr (4, [.ref a19, .ref a21, .ref a23, .int w587, .int w588])), (a19, .inr (3, [.ref a20])), (a20, .inl (gI (xg x), 32, .inl w589)), (a21, .inr (7, [.ref a22, .int w590])), (a22, .inl (gJ (xg x), 60, .inr (.inl w591))), (a23, .inr (7, [.ref a24, .int w592])), (a24, .inl (gJ (xg x), 60, .inr (.inl w593))), (a25, .inr (3, [.ref a26])), (a26, .inl (gI (xg x), 32, .inl v18)), (a28, .inl (gJ (xg x), 60, .inr (.inl v25))), (a29, .inl (gI (xg x), 27, .inl v26)), (a30, .inl (gI (xg x), 27, .inl v27)), (a31, .inl (gI (xg x), 27, .inl v28)), (a32, .inl (gI (xg x), 27, .inl v29)), (v30, .inl (gJ (xg x), v31, .inr (.inl v32))), (v33, .inl (gI (xg x), v34, .inl v35)), (v36, .inl (gZ (xg x), v37, .inl v38)), (a33, .inl (gI (xg x), 12, .inl w601)), (a34, .inl (gI (xg x), 27, .inl w602)), (a35, .inl (gI (xg x), 27, .inl w603)), (a36, .inl (gI (xg x), 60, .inl w604)), (a37, .inl (gI (xg x), 3, .inl w605)), (a38, .inl (gJ (xg x), 1, .inr (.inl w594)))] ++ ZP (xg x) a39 v45) (rest := []) (T := TX9) (c_X9_thrown (xl x) (xg x) a27 a28 a29 a30 a31 a32 v30 v33 v36 a33 a34 a35 a36 a37 w598 v20 v21 v22 w599 w600 h) gL_law_X9_thrown (by rfl) rfl rfl (by decide +kernel) ⟨⟨(Nat.le_of_ble_eq_true rfl), (Nat.le_of_ble_eq_true rfl)⟩, (Nat.le_trans (Nat.le_add_right _ _) hk.1), (Nat.le_trans (Nat.le_add_right _ _) hk.2)⟩ (Nat.le_of_ble_eq_true rfl) rfl rfl (sb_zr (sb_of [27, 0, 1, 2, 3, 4, 5, 6, 7, 8, 9, 10, 11, 12, 13, 14, 15, 16, 17, 18, 19, 20, 21, 22, 23, 24, 25, 26, 28, 29, 30, 31, 32, 33, 34, 35, 36, 37, 38, 39, 40, 41] rfl rfl)) rfl dL_law_2084 (fun v X1 hp => ?_)
    obtain ⟨r606, rfl, rfl, h⟩ := hp
    refine xw_X (sb_rz (sb_of [1, 2, 3, 4, 5, 6, 7, 8, 9, 10, 11, 12, 13, 14, 15, 16, 17, 18, 19, 20, 21, 22, 23, 24, 25, 26, 27, 0, 28, 29, 30, 31, 32, 33, 34, 35, 36, 37, 38, 39, 40, 41] rfl rfl)) (show ww x (W_L_law (xg x) a0 a1 a2 a3 a4 a5 a6 a7 a8 a9 a10 a11 a12 a13 a14 a15 a16 a17 a18 a19 a20 a21 a22 a23 a24 a25 a26 a27 a28 a29 a30 a31 a32 a33 a34 a35 a36 a37 a38 a39 ab v0 v1 w584 w585 w586 v5 v6 v7 v8 v9 v10 w587 w588 w589 w590 w591 w592 w593 v18 w598 v20 v21 v22 w599 w600 v25 v26 v27 v28 v29 v30 v31 v32 v33 v34 v35 v36 v37 v38 w601 w602 w603 w604 w605 w594 v46 v47 ++ ZP (xg x) a39 v45) [(6, .long r597), (5, .int r583), (0, .ref ab), (1, .ref a0), (2, .ref a27), (3, .ref a38), (4, .int z4)] (k0 + 3) (n0 + 18) 2087 [.int r606] from ?_)
    refine xw_iload hf (pc := 2087) dL_law_2087 1 rfl ?_
    refine xw_icmp_eq hf (pc := 2089) dL_law_2089 (tgt := 2094) rfl ⟨fun c => ?_, fun c => ?_⟩
    · have h := h.1 c
      refine xw_iload hf (pc := 2094) dL_law_2094 1 rfl ?_
      refine xw_if_ne hf (pc := 2096) dL_law_2096 (c := r583 = 0) Iff.rfl (tgt := 2110) rfl ⟨fun c => ?_, fun c => ?_⟩
      · have h := h.1 c
        refine xw_aload_n hf (pc := 2099) dL_law_2099 rfl 5 rfl ?_
        refine xw_iconst hf (pc := 2100) dL_law_2100 (v := 0) (by decide) ?_
        refine xw_lald hf (pc := 2101) dL_law_2101 41 rfl h.1 ?_
        have h := h.2
        refine xw_lload hf (pc := 2102) dL_law_2102 0 rfl ?_
        refine xw_lcmp hf (pc := 2104) dL_law_2104 ?_
        refine xw_if_eq hf (pc := 2105) dL_law_2105 (c := (w594 (0 : Int32).toNatClampNeg) = r597) (lc_eq _ _) (tgt := 2110) rfl ⟨fun c => ?_, fun c => ?_⟩
        · have h := h.1 c
          refine xw_goto hf (pc := 2110) dL_law_2110 (tgt := 2681) rfl ?_
          refine xw_L [2, 3, 4, 5, 6] rfl ?_
          exact hK2681 _ _ _ _ hk _ _ _ _ _ _ _ _ _ _ _ _ _ _ _ _ _ _ _ h
        · have h := h.2 c
          refine xw_iconst hf (pc := 2108) dL_law_2108 (v := 0) (by decide) ?_
          exact h.elim
      · have h := h.2 c
        refine xw_goto hf (pc := 2110) dL_law_2110 (tgt := 2681) rfl ?_
        refine xw_L [2, 3, 4, 5, 6] rfl ?_
        exact hK2681 _ _ _ _ hk _ _ _ _ _ _ _ _ _ _ _ _ _ _ _ _ _ _ _ h
    · have h := h.2 c
      refine xw_iconst hf (pc := 2092) dL_law_2092 (v := 0) (by decide) ?_
      exact h.elim
set_option maxHeartbeats 4000000 in
set_option maxRecDepth 100000 in
theorem w_L_law_L2113 {x : Cx} {mc ms : Nat} (hf : fx x (rm_L_law) RL cL_law wsL_law) (hn : xn x = 8) {k0 n0 rc rs : Nat} (hk : k0 + rc ≤ (rm_L_law).cells ∧ n0 + rs ≤ (rm_L_law).slots) (a0 a1 a2 a3 a4 a5 a6 a7 a8 a9 a10 a11 a12 a13 a14 a15 a16 a17 a18 a19 a20 a21 a22 a23 a24 a25 a26 a27 a28 a29 a30 a31 a32 a33 a34 a35 a36 a37 a38 a39 ab : Nat) (z4 : Int32) (v0 : Int32) (v1 : Nat → Int64) (v20 : Int32) (v21 : Int32) (v22 : Int32) (v25 : Nat → Int64) (v46 : Nat) (v47 : Nat → Int32) (v5 : Nat → Int32) (v6 : Nat → Int32) (v7 : Nat → Int32) (v8 : Int32) (v9 : Nat → Int32) (v10 : Nat → Int32) (v18 : Nat → Int32) (v26 : Nat → Int32) (v27 : Nat → Int32) (v28 : Nat → Int32) (v29 : Nat → Int32) (v30 : Nat) (v31 : Nat) (v32 : Nat → Int64) (v33 : Nat) (v34 : Nat) (v35 : Nat → Int32) (v36 : Nat) (v37 : Nat) (v38 : Nat → Int32) (v45 : ZL) {K2681 : Nat → Nat → Int32 → (Nat → Int64) → (Nat → Int32) → Int32 → Int32 → (Nat → Int32) → Int32 → (Nat → Int64) → Int32 → (Nat → Int64) → Int32 → Int32 → Int32 → (Nat → Int32) → (Nat → Int32) → (Nat → Int32) → (Nat → Int32) → (Nat → Int32) → (Nat → Int64) → Prop} (hst : (xl x).stackTraces = false) (hX : sX x ab v46 v47)
    (n : Nat) (v2 : Int32) (v3 : Nat → Int64) (v4 : Nat → Int32) (v11 : Int32) (v12 : Int32) (v13 : Nat → Int32) (v14 : Int32) (v15 : Nat → Int64) (v16 : Int32) (v17 : Nat → Int64) (v19 : Int32) (v23 : Int32) (v24 : Int32) (v39 : Nat → Int32) (v40 : Nat → Int32) (v41 : Nat → Int32) (v42 : Nat → Int32) (v43 : Nat → Int32) (v44 : Nat → Int64) (h : P_L_law_L2113 z4 v0 v1 v20 v21 v22 v25 v46 v47 K2681 n rc rs v2 v3 v4 v11 v12 v13 v14 v15 v16 v17 v19 v23 v24 v39 v40 v41 v42 v43 v44)
    (hK2681 : ∀ (k0 n0 rc rs : Nat), k0 + rc ≤ (rm_L_law).cells ∧ n0 + rs ≤ (rm_L_law).slots → ∀ (uv2 : Int32), ∀ (uv3 : Nat → Int64), ∀ (uv4 : Nat → Int32), ∀ (uv11 : Int32), ∀ (uv12 : Int32), ∀ (uv13 : Nat → Int32), ∀ (uv14 : Int32), ∀ (uv15 : Nat → Int64), ∀ (uv16 : Int32), ∀ (uv17 : Nat → Int64), ∀ (uv19 : Int32), ∀ (uv23 : Int32), ∀ (uv24 : Int32), ∀ (uv39 : Nat → Int32), ∀ (uv40 : Nat → Int32), ∀ (uv41 : Nat → Int32), ∀ (uv42 : Nat → Int32), ∀ (uv43 : Nat → Int32), ∀ (uv44 : Nat → Int64), K2681 rc rs uv2 uv3 uv4 uv11 uv12 uv13 uv14 uv15 uv16 uv17 uv19 uv23 uv24 uv39 uv40 uv41 uv42 uv43 uv44 → ww x (W_L_law (xg x) a0 a1 a2 a3 a4 a5 a6 a7 a8 a9 a10 a11 a12 a13 a14 a15 a16 a17 a18 a19 a20 a21 a22 a23 a24 a25 a26 a27 a28 a29 a30 a31 a32 a33 a34 a35 a36 a37 a38 a39 ab v0 v1 uv2 uv3 uv4 v5 v6 v7 v8 v9 v10 uv11 uv12 uv13 uv14 uv15 uv16 uv17 v18 uv19 v20 v21 v22 uv23 uv24 v25 v26 v27 v28 v29 v30 v31 v32 v33 v34 v35 v36 v37 v38 uv39 uv40 uv41 uv42 uv43 uv44 v46 v47 ++ ZP (xg x) a39 v45) [(0, .ref ab), (1, .ref a0), (2, .ref a27), (3, .ref a38), (4, .int z4)] k0 n0 2681 []) :
    ww x (W_L_law (xg x) a0 a1 a2 a3 a4 a5 a6 a7 a8 a9 a10 a11 a12 a13 a14 a15 a16 a17 a18 a19 a20 a21 a22 a23 a24 a25 a26 a27 a28 a29 a30 a31 a32 a33 a34 a35 a36 a37 a38 a39 ab v0 v1 v2 v3 v4 v5 v6 v7 v8 v9 v10 v11 v12 v13 v14 v15 v16 v17 v18 v19 v20 v21 v22 v23 v24 v25 v26 v27 v28 v29 v30 v31 v32 v33 v34 v35 v36 v37 v38 v39 v40 v41 v42 v43 v44 v46 v47 ++ ZP (xg x) a39 v45) [(0, .ref ab), (1, .ref a0), (2, .ref a27), (3, .ref a38), (4, .int z4)] k0 n0 2113 [] := by
  induction n generalizing k0 n0 rc rs v2 v3 v4 v11 v12 v13 v14 v15 v16 v17 v19 v23 v24 v39 v40 v41 v42 v43 v44 with
  | zero => exact h.elim
  | succ n ih =>
    unfold P_L_law_L2113 at h
    refine xw_aload_n hf (pc := 2113) dL_law_2113 rfl 1 rfl ?_
    refine xw_aload_n hf (pc := 2114) dL_law_2114 rfl 0 rfl ?_
    refine xw_iload hf (pc := 2115) dL_law_2115 4 rfl ?_
    refine xw_iconst hf (pc := 2117) dL_law_2117 (v := 1) (by decide) ?_
    refine xw_iadd hf (pc := 2118) dL_law_2118 ?_
    refine xw_sald hf hX dL_law_2119 h.1 ?_
    have h := h.2
    refine xw_i2l hf (pc := 2120) dL_law_2120 ?_
    refine xw_bipush hf (pc := 2121) dL_law_2121 (v := 32) (by decide) ?_
    refine xw_lshl hf (pc := 2123) dL_law_2123 ?_
    refine xw_aload_n hf (pc := 2124) dL_law_2124 rfl 0 rfl ?_
    refine xw_iload hf (pc := 2125) dL_law_2125 4 rfl ?_
    refine xw_iconst hf (pc := 2127) dL_law_2127 (v := 2) (by decide) ?_
    refine xw_iadd hf (pc := 2128) dL_law_2128 ?_
    refine xw_sald hf hX dL_law_2129 h.1 ?_
    have h := h.2
    refine xw_i2l hf (pc := 2130) dL_law_2130 ?_
    refine xw_ldc2 hf (pc := 2131) dL_law_2131 mw_L_law_0 ?_
    refine xw_land hf (pc := 2134) dL_law_2134 ?_
    refine xw_lor hf (pc := 2135) dL_law_2135 ?_
    refine xw_aload_n hf (pc := 2136) dL_law_2136 rfl 0 rfl ?_
    refine xw_iload hf (pc := 2137) dL_law_2137 4 rfl ?_
    refine xw_iconst hf (pc := 2139) dL_law_2139 (v := 3) (by decide) ?_
    refine xw_iadd hf (pc := 2140) dL_law_2140 ?_
    refine xw_sald hf hX dL_law_2141 h.1 ?_
    have h := h.2
    refine xw_aload_n hf (pc := 2142) dL_law_2142 rfl 3 rfl ?_
    obtain ⟨mc642, ms643, ⟨hb1, hb2⟩, h⟩ := h
    refine xw_callSW hf (pc := 2143) (nA := 4) (Xr := [(a8, .inr (6, [.ref a9, .ref a11, .ref a12])), (a9, .inr (3, [.ref a10])), (a10, .inl (gI (xg x), 32, .inl v5)), (a11, .inl (gI (xg x), 32, .inl v6)), (a12, .inl (gI (xg x), 32, .inl v7)), (a13, .inr (1, [.ref a39, .ref a14, .ref a16, .int v8])), (a14, .inr (3, [.ref a15])), (a15, .inl (gI (xg x), 32, .inl v9)), (a16, .inr (3, [.ref a17])), (a17, .inl (gI (xg x), 32, .inl v10)), (a25, .inr (3, [.ref a26])), (a26, .inl (gI (xg x), 32, .inl v18)), (a27, .inr (9, [.int v19, .ref a28, .int v20, .ref a29, .ref a30, .ref a31, .ref a32, .ref v30, .ref v33, .ref v36, .int v21, .int v22, .ref a33, .int v23, .ref a34, .ref a35, .ref a36, .ref a37, .int v24])), (a28, .inl (gJ (xg x), 60, .inr (.inl v25))), (a29, .inl (gI (xg x), 27, .inl v26)), (a30, .inl (gI (xg x), 27, .inl v27)), (a31, .inl (gI (xg x), 27, .inl v28)), (a32, .inl (gI (xg x), 27, .inl v29)), (v30, .inl (gJ (xg x), v31, .inr (.inl v32))), (v33, .inl (gI (xg x), v34, .inl v35)), (v36, .inl (gZ (xg x), v37, .inl v38)), (a33, .inl (gI (xg x), 12, .inl v39)), (a34, .inl (gI (xg x), 27, .inl v40)), (a35, .inl (gI (xg x), 27, .inl v41)), (a36, .inl (gI (xg x), 60, .inl v42)), (a37, .inl (gI (xg x), 3, .inl v43))] ++ ZP (xg x) a39 v45) (rest := []) (c_L_leftoverCount (xl x) (xg x) hst a0 a1 a2 a3 a4 a5 a6 a7 a18 a19 a20 a21 a22 a23 a24 a38 a8 a13 a25 v0 v1 v2 v3 v4 v11 v12 v13 v14 v15 v16 v17 v44 ((((v47 (z4 + 1).toNatClampNeg).toInt64) <<< ((32 : Int32).toInt64 &&& 63)) ||| (((v47 (z4 + 2).toNatClampNeg).toInt64) &&& 4294967295)) (v47 (z4 + 3).toNatClampNeg) h) gL_law_L_leftoverCount (by rfl) rfl (by decide +kernel) ⟨⟨(Nat.le_of_ble_eq_true rfl), (Nat.le_of_ble_eq_true rfl)⟩, (Nat.le_trans (show k0 + 2 ≤ k0 + rc by omega) hk.1), (Nat.le_trans (show n0 + 12 ≤ n0 + rs by omega) hk.2)⟩ (Nat.le_of_ble_eq_true rfl) (sb_zr (sb_of [0, 1, 2, 3, 4, 5, 6, 7, 18, 19, 20, 21, 22, 23, 24, 41, 8, 9, 10, 11, 12, 13, 14, 15, 16, 17, 25, 26, 27, 28, 29, 30, 31, 32, 33, 34, 35, 36, 37, 38, 39, 40] rfl rfl)) rfl dL_law_2143 (fun v X1 hp => ?_)
    obtain ⟨r630, w631, w632, w633, w634, w635, w636, w637, w638, w639, w640, w641, rfl, rfl, h⟩ := hp
    have hk : k0 + 2 + mc642 ≤ (rm_L_law).cells ∧ n0 + 12 + ms643 ≤ (rm_L_law).slots := ⟨Nat.le_trans (show k0 + 2 + mc642 ≤ k0 + rc by omega) hk.1, Nat.le_trans (show n0 + 12 + ms643 ≤ n0 + rs by omega) hk.2⟩
    refine xw_X (sb_rz (sb_of [0, 1, 2, 3, 4, 5, 6, 7, 16, 17, 18, 19, 20, 21, 22, 23, 24, 25, 8, 9, 10, 11, 12, 13, 14, 26, 27, 28, 29, 30, 31, 32, 33, 34, 35, 36, 37, 38, 39, 40, 41, 15] rfl rfl)) (show ww x (W_L_law (xg x) a0 a1 a2 a3 a4 a5 a6 a7 a8 a9 a10 a11 a12 a13 a14 a15 a16 a17 a18 a19 a20 a21 a22 a23 a24 a25 a26 a27 a28 a29 a30 a31 a32 a33 a34 a35 a36 a37 a38 a39 ab v0 v1 w631 w632 w633 v5 v6 v7 v8 v9 v10 w634 w635 w636 w637 w638 w639 w640 v18 v19 v20 v21 v22 v23 v24 v25 v26 v27 v28 v29 v30 v31 v32 v33 v34 v35 v36 v37 v38 v39 v40 v41 v42 v43 w641 v46 v47 ++ ZP (xg x) a39 v45) [(0, .ref ab), (1, .ref a0), (2, .ref a27), (3, .ref a38), (4, .int z4)] (k0 + 2) (n0 + 12) 2146 [.int r630] from ?_)
    refine xw_istore hf (pc := 2146) dL_law_2146 [(5, .int r630), (0, .ref ab), (1, .ref a0), (2, .ref a27), (3, .ref a38), (4, .int z4)] hn (by decide) rfl ?_
    refine xw_aload_n hf (pc := 2148) dL_law_2148 rfl 3 rfl ?_
    refine xw_aload_n hf (pc := 2149) dL_law_2149 rfl 1 rfl ?_
    refine xw_iload hf (pc := 2150) dL_law_2150 5 rfl ?_
    refine xw_iconst hf (pc := 2152) dL_law_2152 (v := 1) (by decide) ?_
    refine xw_iadd hf (pc := 2153) dL_law_2153 ?_
    refine xw_sald hf hX dL_law_2154 h.1 ?_
    have h := h.2
    refine xw_i2l hf (pc := 2155) dL_law_2155 ?_
    refine xw_bipush hf (pc := 2156) dL_law_2156 (v := 32) (by decide) ?_
    refine xw_lshl hf (pc := 2158) dL_law_2158 ?_
    refine xw_aload_n hf (pc := 2159) dL_law_2159 rfl 1 rfl ?_
    refine xw_iload hf (pc := 2160) dL_law_2160 5 rfl ?_
    refine xw_iconst hf (pc := 2162) dL_law_2162 (v := 2) (by decide) ?_
    refine xw_iadd hf (pc := 2163) dL_law_2163 ?_
    refine xw_sald hf hX dL_law_2164 h.1 ?_
    have h := h.2
    refine xw_i2l hf (pc := 2165) dL_law_2165 ?_
    refine xw_ldc2 hf (pc := 2166) dL_law_2166 mw_L_law_0 ?_
    refine xw_land hf (pc := 2169) dL_law_2169 ?_
    refine xw_lor hf (pc := 2170) dL_law_2170 ?_
    refine xw_aload_n hf (pc := 2171) dL_law_2171 rfl 1 rfl ?_
    refine xw_iload hf (pc := 2172) dL_law_2172 5 rfl ?_
    refine xw_iconst hf (pc := 2174) dL_law_2174 (v := 3) (by decide) ?_
    refine xw_iadd hf (pc := 2175) dL_law_2175 ?_
    refine xw_sald hf hX dL_law_2176 h.1 ?_
    have h := h.2
    refine xw_callV hf (pc := 2177) (nA := 2) (Xr := [(a0, .inr (8, [.ref a1, .ref a8, .ref a13, .ref a18, .ref a25])), (a1, .inr (2, [.ref a2, .ref a4, .ref a6])), (a2, .inr (7, [.ref a3, .int v0])), (a3, .inl (gJ (xg x), 60, .inr (.inl v1))), (a4, .inr (7, [.ref a5, .int w631])), (a5, .inl (gJ (xg x), 60, .inr (.inl w632))), (a6, .inr (3, [.ref a7])), (a7, .inl (gI (xg x), 32, .inl w633)), (a8, .inr (6, [.ref a9, .ref a11, .ref a12])), (a9, .inr (3, [.ref a10])), (a10, .inl (gI (xg x), 32, .inl v5)), (a11, .inl (gI (xg x), 32, .inl v6)), (a12, .inl (gI (xg x), 32, .inl v7)), (a13, .inr (1, [.ref a39, .ref a14, .ref a16, .int v8])), (a14, .inr (3, [.ref a15])), (a15, .inl (gI (xg x), 32, .inl v9)), (a16, .inr (3, [.ref a17])), (a17, .inl (gI (xg x), 32, .inl v10)), (a18, .inr (4, [.ref a19, .ref a21, .ref a23, .int w634, .int w635])), (a19, .inr (3, [.ref a20])), (a20, .inl (gI (xg x), 32, .inl w636)), (a21, .inr (7, [.ref a22, .int w637])), (a22, .inl (gJ (xg x), 60, .inr (.inl w638))), (a23, .inr (7, [.ref a24, .int w639])), (a24, .inl (gJ (xg x), 60, .inr (.inl w640))), (a25, .inr (3, [.ref a26])), (a26, .inl (gI (xg x), 32, .inl v18)), (a29, .inl (gI (xg x), 27, .inl v26)), (a30, .inl (gI (xg x), 27, .inl v27)), (a31, .inl (gI (xg x), 27, .inl v28)), (a32, .inl (gI (xg x), 27, .inl v29)), (v30, .inl (gJ (xg x), v31, .inr (.inl v32))), (v33, .inl (gI (xg x), v34, .inl v35)), (v36, .inl (gZ (xg x), v37, .inl v38)), (a38, .inl (gJ (xg x), 1, .inr (.inl w641)))] ++ ZP (xg x) a39 v45) (rest := []) (T := TX9) (c_X9_leftoverCount (xl x) (xg x) a27 a28 a33 a34 a35 a36 a37 a29 a30 a31 a32 v30 v33 v36 v19 v20 v21 v22 v23 v24 v25 v39 v40 v41 v42 v43 ((((v47 (z4 + 1).toNatClampNeg).toInt64) <<< ((32 : Int32).toInt64 &&& 63)) ||| (((v47 (z4 + 2).toNatClampNeg).toInt64) &&& 4294967295)) (v47 (z4 + 3).toNatClampNeg) h) gL_law_X9_leftoverCount (by rfl) rfl rfl (by decide +kernel) ⟨⟨(Nat.le_of_ble_eq_true rfl), (Nat.le_of_ble_eq_true rfl)⟩, (Nat.le_trans (Nat.le_add_right _ _) hk.1), (Nat.le_trans (Nat.le_add_right _ _) hk.2)⟩ (Nat.le_of_ble_eq_true rfl) rfl rfl (sb_zr (sb_of [27, 28, 36, 37, 38, 39, 40, 0, 1, 2, 3, 4, 5, 6, 7, 8, 9, 10, 11, 12, 13, 14, 15, 16, 17, 18, 19, 20, 21, 22, 23, 24, 25, 26, 29, 30, 31, 32, 33, 34, 35, 41] rfl rfl)) rfl dL_law_2177 (fun v X1 hp => ?_)
    obtain ⟨r644, w645, w646, w647, w648, w649, w650, w651, w652, rfl, rfl, h⟩ := hp
    refine xw_X (sb_rz (sb_of [7, 8, 9, 10, 11, 12, 13, 14, 15, 16, 17, 18, 19, 20, 21, 22, 23, 24, 25, 26, 27, 28, 29, 30, 31, 32, 33, 0, 1, 34, 35, 36, 37, 38, 39, 40, 2, 3, 4, 5, 6, 41] rfl rfl)) (show ww x (W_L_law (xg x) a0 a1 a2 a3 a4 a5 a6 a7 a8 a9 a10 a11 a12 a13 a14 a15 a16 a17 a18 a19 a20 a21 a22 a23 a24 a25 a26 a27 a28 a29 a30 a31 a32 a33 a34 a35 a36 a37 a38 a39 ab v0 v1 w631 w632 w633 v5 v6 v7 v8 v9 v10 w634 w635 w636 w637 w638 w639 w640 v18 w645 v20 v21 v22 w646 w647 v25 v26 v27 v28 v29 v30 v31 v32 v33 v34 v35 v36 v37 v38 w648 w649 w650 w651 w652 w641 v46 v47 ++ ZP (xg x) a39 v45) [(5, .int r630), (0, .ref ab), (1, .ref a0), (2, .ref a27), (3, .ref a38), (4, .int z4)] (k0 + 2) (n0 + 12) 2180 [.int r644] from ?_)
    refine xw_istore hf (pc := 2180) dL_law_2180 [(6, .int r644), (5, .int r630), (0, .ref ab), (1, .ref a0), (2, .ref a27), (3, .ref a38), (4, .int z4)] hn (by decide) rfl ?_
    refine xw_aload_n hf (pc := 2182) dL_law_2182 rfl 4 rfl ?_
    refine xw_callV hf (pc := 2183) (nA := 0) (Xr := [(a0, .inr (8, [.ref a1, .ref a8, .ref a13, .ref a18, .ref a25])), (a1, .inr (2, [.ref a2, .ref a4, .ref a6])), (a2, .inr (7, [.ref a3, .int v0])), (a3, .inl (gJ (xg x), 60, .inr (.inl v1))), (a4, .inr (7, [.ref a5, .int w631])), (a5, .inl (gJ (xg x), 60, .inr (.inl w632))), (a6, .inr (3, [.ref a7])), (a7, .inl (gI (xg x), 32, .inl w633)), (a8, .inr (6, [.ref a9, .ref a11, .ref a12])), (a9, .inr (3, [.ref a10])), (a10, .inl (gI (xg x), 32, .inl v5)), (a11, .inl (gI (xg x), 32, .inl v6)), (a12, .inl (gI (xg x), 32, .inl v7)), (a13, .inr (1, [.ref a39, .ref a14, .ref a16, .int v8])), (a14, .inr (3, [.ref a15])), (a15, .inl (gI (xg x), 32, .inl v9)), (a16, .inr (3, [.ref a17])), (a17, .inl (gI (xg x), 32, .inl v10)), (a18, .inr (4, [.ref a19, .ref a21, .ref a23, .int w634, .int w635])), (a19, .inr (3, [.ref a20])), (a20, .inl (gI (xg x), 32, .inl w636)), (a21, .inr (7, [.ref a22, .int w637])), (a22, .inl (gJ (xg x), 60, .inr (.inl w638))), (a23, .inr (7, [.ref a24, .int w639])), (a24, .inl (gJ (xg x), 60, .inr (.inl w640))), (a25, .inr (3, [.ref a26])), (a26, .inl (gI (xg x), 32, .inl v18)), (a28, .inl (gJ (xg x), 60, .inr (.inl v25))), (a29, .inl (gI (xg x), 27, .inl v26)), (a30, .inl (gI (xg x), 27, .inl v27)), (a31, .inl (gI (xg x), 27, .inl v28)), (a32, .inl (gI (xg x), 27, .inl v29)), (v30, .inl (gJ (xg x), v31, .inr (.inl v32))), (v33, .inl (gI (xg x), v34, .inl v35)), (v36, .inl (gZ (xg x), v37, .inl v38)), (a33, .inl (gI (xg x), 12, .inl w648)), (a34, .inl (gI (xg x), 27, .inl w649)), (a35, .inl (gI (xg x), 27, .inl w650)), (a36, .inl (gI (xg x), 60, .inl w651)), (a37, .inl (gI (xg x), 3, .inl w652)), (a38, .inl (gJ (xg x), 1, .inr (.inl w641)))] ++ ZP (xg x) a39 v45) (rest := []) (T := TX9) (c_X9_thrown (xl x) (xg x) a27 a28 a29 a30 a31 a32 v30 v33 v36 a33 a34 a35 a36 a37 w645 v20 v21 v22 w646 w647 h) gL_law_X9_thrown (by rfl) rfl rfl (by decide +kernel) ⟨⟨(Nat.le_of_ble_eq_true rfl), (Nat.le_of_ble_eq_true rfl)⟩, (Nat.le_trans (Nat.le_add_right _ _) hk.1), (Nat.le_trans (Nat.le_add_right _ _) hk.2)⟩ (Nat.le_of_ble_eq_true rfl) rfl rfl (sb_zr (sb_of [27, 0, 1, 2, 3, 4, 5, 6, 7, 8, 9, 10, 11, 12, 13, 14, 15, 16, 17, 18, 19, 20, 21, 22, 23, 24, 25, 26, 28, 29, 30, 31, 32, 33, 34, 35, 36, 37, 38, 39, 40, 41] rfl rfl)) rfl dL_law_2183 (fun v X1 hp => ?_)
    obtain ⟨r653, rfl, rfl, h⟩ := hp
    refine xw_X (sb_rz (sb_of [1, 2, 3, 4, 5, 6, 7, 8, 9, 10, 11, 12, 13, 14, 15, 16, 17, 18, 19, 20, 21, 22, 23, 24, 25, 26, 27, 0, 28, 29, 30, 31, 32, 33, 34, 35, 36, 37, 38, 39, 40, 41] rfl rfl)) (show ww x (W_L_law (xg x) a0 a1 a2 a3 a4 a5 a6 a7 a8 a9 a10 a11 a12 a13 a14 a15 a16 a17 a18 a19 a20 a21 a22 a23 a24 a25 a26 a27 a28 a29 a30 a31 a32 a33 a34 a35 a36 a37 a38 a39 ab v0 v1 w631 w632 w633 v5 v6 v7 v8 v9 v10 w634 w635 w636 w637 w638 w639 w640 v18 w645 v20 v21 v22 w646 w647 v25 v26 v27 v28 v29 v30 v31 v32 v33 v34 v35 v36 v37 v38 w648 w649 w650 w651 w652 w641 v46 v47 ++ ZP (xg x) a39 v45) [(6, .int r644), (5, .int r630), (0, .ref ab), (1, .ref a0), (2, .ref a27), (3, .ref a38), (4, .int z4)] (k0 + 2) (n0 + 12) 2186 [.int r653] from ?_)
    refine xw_iload hf (pc := 2186) dL_law_2186 1 rfl ?_
    refine xw_icmp_eq hf (pc := 2188) dL_law_2188 (tgt := 2193) rfl ⟨fun c => ?_, fun c => ?_⟩
    · have h := h.1 c
      refine xw_iload hf (pc := 2193) dL_law_2193 1 rfl ?_
      refine xw_if_ne hf (pc := 2195) dL_law_2195 (c := r630 = 0) Iff.rfl (tgt := 2210) rfl ⟨fun c => ?_, fun c => ?_⟩
      · have h := h.1 c
        refine xw_aload_n hf (pc := 2198) dL_law_2198 rfl 5 rfl ?_
        refine xw_iconst hf (pc := 2199) dL_law_2199 (v := 0) (by decide) ?_
        refine xw_lald hf (pc := 2200) dL_law_2200 41 rfl h.1 ?_
        have h := h.2
        refine xw_iload hf (pc := 2201) dL_law_2201 0 rfl ?_
        refine xw_i2l hf (pc := 2203) dL_law_2203 ?_
        refine xw_lcmp hf (pc := 2204) dL_law_2204 ?_
        refine xw_if_eq hf (pc := 2205) dL_law_2205 (c := (w641 (0 : Int32).toNatClampNeg) = r644.toInt64) (lc_eq _ _) (tgt := 2210) rfl ⟨fun c => ?_, fun c => ?_⟩
        · have h := h.1 c
          refine xw_goto hf (pc := 2210) dL_law_2210 (tgt := 2681) rfl ?_
          refine xw_L [2, 3, 4, 5, 6] rfl ?_
          exact hK2681 _ _ _ _ hk _ _ _ _ _ _ _ _ _ _ _ _ _ _ _ _ _ _ _ h
        · have h := h.2 c
          refine xw_iconst hf (pc := 2208) dL_law_2208 (v := 0) (by decide) ?_
          exact h.elim
      · have h := h.2 c
        refine xw_goto hf (pc := 2210) dL_law_2210 (tgt := 2681) rfl ?_
        refine xw_L [2, 3, 4, 5, 6] rfl ?_
        exact hK2681 _ _ _ _ hk _ _ _ _ _ _ _ _ _ _ _ _ _ _ _ _ _ _ _ h
    · have h := h.2 c
      refine xw_iconst hf (pc := 2191) dL_law_2191 (v := 0) (by decide) ?_
      exact h.elim
set_option maxHeartbeats 4000000 in
set_option maxRecDepth 100000 in
theorem w_L_law_L2213 {x : Cx} {mc ms : Nat} (hf : fx x (rm_L_law) RL cL_law wsL_law) (hn : xn x = 8) {k0 n0 rc rs : Nat} (hk : k0 + rc ≤ (rm_L_law).cells ∧ n0 + rs ≤ (rm_L_law).slots) (a0 a1 a2 a3 a4 a5 a6 a7 a8 a9 a10 a11 a12 a13 a14 a15 a16 a17 a18 a19 a20 a21 a22 a23 a24 a25 a26 a27 a28 a29 a30 a31 a32 a33 a34 a35 a36 a37 a38 a39 ab : Nat) (z4 : Int32) (v0 : Int32) (v1 : Nat → Int64) (v20 : Int32) (v25 : Nat → Int64) (v46 : Nat) (v47 : Nat → Int32) (v6 : Nat → Int32) (v7 : Nat → Int32) (v18 : Nat → Int32) (v27 : Nat → Int32) {K2681 : Nat → Nat → Int32 → (Nat → Int64) → (Nat → Int32) → (Nat → Int32) → Int32 → (Nat → Int32) → (Nat → Int32) → Int32 → Int32 → (Nat → Int32) → Int32 → (Nat → Int64) → Int32 → (Nat → Int64) → Int32 → Int32 → Int32 → Int32 → Int32 → (Nat → Int32) → (Nat → Int32) → (Nat → Int32) → Nat → Nat → (Nat → Int64) → Nat → Nat → (Nat → Int32) → Nat → Nat → (Nat → Int32) → (Nat → Int32) → (Nat → Int32) → (Nat → Int32) → (Nat → Int32) → (Nat → Int32) → (Nat → Int64) → ZL → Prop} (hst : (xl x).stackTraces = false) (hX : sX x ab v46 v47)
    (n : Nat) (v2 : Int32) (v3 : Nat → Int64) (v4 : Nat → Int32) (v5 : Nat → Int32) (v8 : Int32) (v9 : Nat → Int32) (v10 : Nat → Int32) (v11 : Int32) (v12 : Int32) (v13 : Nat → Int32) (v14 : Int32) (v15 : Nat → Int64) (v16 : Int32) (v17 : Nat → Int64) (v19 : Int32) (v21 : Int32) (v22 : Int32) (v23 : Int32) (v24 : Int32) (v26 : Nat → Int32) (v28 : Nat → Int32) (v29 : Nat → Int32) (v30 : Nat) (v31 : Nat) (v32 : Nat → Int64) (v33 : Nat) (v34 : Nat) (v35 : Nat → Int32) (v36 : Nat) (v37 : Nat) (v38 : Nat → Int32) (v39 : Nat → Int32) (v40 : Nat → Int32) (v41 : Nat → Int32) (v42 : Nat → Int32) (v43 : Nat → Int32) (v44 : Nat → Int64) (v45 : ZL) (h : P_L_law_L2213 z4 v0 v1 v20 v25 v46 v47 K2681 n rc rs v2 v3 v4 v5 v8 v9 v10 v11 v12 v13 v14 v15 v16 v17 v19 v21 v22 v23 v24 v26 v28 v29 v30 v31 v32 v33 v34 v35 v36 v37 v38 v39 v40 v41 v42 v43 v44 v45)
    (hK2681 : ∀ (k0 n0 rc rs : Nat), k0 + rc ≤ (rm_L_law).cells ∧ n0 + rs ≤ (rm_L_law).slots → ∀ (uv2 : Int32), ∀ (uv3 : Nat → Int64), ∀ (uv4 : Nat → Int32), ∀ (uv5 : Nat → Int32), ∀ (uv8 : Int32), ∀ (uv9 : Nat → Int32), ∀ (uv10 : Nat → Int32), ∀ (uv11 : Int32), ∀ (uv12 : Int32), ∀ (uv13 : Nat → Int32), ∀ (uv14 : Int32), ∀ (uv15 : Nat → Int64), ∀ (uv16 : Int32), ∀ (uv17 : Nat → Int64), ∀ (uv19 : Int32), ∀ (uv21 : Int32), ∀ (uv22 : Int32), ∀ (uv23 : Int32), ∀ (uv24 : Int32), ∀ (uv26 : Nat → Int32), ∀ (uv28 : Nat → Int32), ∀ (uv29 : Nat → Int32), ∀ (uv30 : Nat), ∀ (uv31 : Nat), ∀ (uv32 : Nat → Int64), ∀ (uv33 : Nat), ∀ (uv34 : Nat), ∀ (uv35 : Nat → Int32), ∀ (uv36 : Nat), ∀ (uv37 : Nat), ∀ (uv38 : Nat → Int32), ∀ (uv39 : Nat → Int32), ∀ (uv40 : Nat → Int32), ∀ (uv41 : Nat → Int32), ∀ (uv42 : Nat → Int32), ∀ (uv43 : Nat → Int32), ∀ (uv44 : Nat → Int64), ∀ (uv45 : ZL), K2681 rc rs uv2 uv3 uv4 uv5 uv8 uv9 uv10 uv11 uv12 uv13 uv14 uv15 uv16 uv17 uv19 uv21 uv22 uv23 uv24 uv26 uv28 uv29 uv30 uv31 uv32 uv33 uv34 uv35 uv36 uv37 uv38 uv39 uv40 uv41 uv42 uv43 uv44 uv45 → ww x (W_L_law (xg x) a0 a1 a2 a3 a4 a5 a6 a7 a8 a9 a10 a11 a12 a13 a14 a15 a16 a17 a18 a19 a20 a21 a22 a23 a24 a25 a26 a27 a28 a29 a30 a31 a32 a33 a34 a35 a36 a37 a38 a39 ab v0 v1 uv2 uv3 uv4 uv5 v6 v7 uv8 uv9 uv10 uv11 uv12 uv13 uv14 uv15 uv16 uv17 v18 uv19 v20 uv21 uv22 uv23 uv24 v25 uv26 v27 uv28 uv29 uv30 uv31 uv32 uv33 uv34 uv35 uv36 uv37 uv38 uv39 uv40 uv41 uv42 uv43 uv44 v46 v47 ++ ZP (xg x) a39 uv45) [(0, .ref ab), (1, .ref a0), (2, .ref a27), (3, .ref a38), (4, .int z4)] k0 n0 2681 []) :
    ww x (W_L_law (xg x) a0 a1 a2 a3 a4 a5 a6 a7 a8 a9 a10 a11 a12 a13 a14 a15 a16 a17 a18 a19 a20 a21 a22 a23 a24 a25 a26 a27 a28 a29 a30 a31 a32 a33 a34 a35 a36 a37 a38 a39 ab v0 v1 v2 v3 v4 v5 v6 v7 v8 v9 v10 v11 v12 v13 v14 v15 v16 v17 v18 v19 v20 v21 v22 v23 v24 v25 v26 v27 v28 v29 v30 v31 v32 v33 v34 v35 v36 v37 v38 v39 v40 v41 v42 v43 v44 v46 v47 ++ ZP (xg x) a39 v45) [(0, .ref ab), (1, .ref a0), (2, .ref a27), (3, .ref a38), (4, .int z4)] k0 n0 2213 [] := by
  induction n generalizing k0 n0 rc rs v2 v3 v4 v5 v8 v9 v10 v11 v12 v13 v14 v15 v16 v17 v19 v21 v22 v23 v24 v26 v28 v29 v30 v31 v32 v33 v34 v35 v36 v37 v38 v39 v40 v41 v42 v43 v44 v45 with
  | zero => exact h.elim
  | succ n ih =>
    unfold P_L_law_L2213 at h
    refine xw_aload_n hf (pc := 2213) dL_law_2213 rfl 1 rfl ?_
    refine xw_aload_n hf (pc := 2214) dL_law_2214 rfl 0 rfl ?_
    refine xw_iload hf (pc := 2215) dL_law_2215 4 rfl ?_
    refine xw_iconst hf (pc := 2217) dL_law_2217 (v := 1) (by decide) ?_
    refine xw_iadd hf (pc := 2218) dL_law_2218 ?_
    refine xw_sald hf hX dL_law_2219 h.1 ?_
    have h := h.2
    refine xw_i2l hf (pc := 2220) dL_law_2220 ?_
    refine xw_bipush hf (pc := 2221) dL_law_2221 (v := 32) (by decide) ?_
    refine xw_lshl hf (pc := 2223) dL_law_2223 ?_
    refine xw_aload_n hf (pc := 2224) dL_law_2224 rfl 0 rfl ?_
    refine xw_iload hf (pc := 2225) dL_law_2225 4 rfl ?_
    refine xw_iconst hf (pc := 2227) dL_law_2227 (v := 2) (by decide) ?_
    refine xw_iadd hf (pc := 2228) dL_law_2228 ?_
    refine xw_sald hf hX dL_law_2229 h.1 ?_
    have h := h.2
    refine xw_i2l hf (pc := 2230) dL_law_2230 ?_
    refine xw_ldc2 hf (pc := 2231) dL_law_2231 mw_L_law_0 ?_
    refine xw_land hf (pc := 2234) dL_law_2234 ?_
    refine xw_lor hf (pc := 2235) dL_law_2235 ?_
    refine xw_aload_n hf (pc := 2236) dL_law_2236 rfl 0 rfl ?_
    refine xw_iload hf (pc := 2237) dL_law_2237 4 rfl ?_
    refine xw_iconst hf (pc := 2239) dL_law_2239 (v := 3) (by decide) ?_
    refine xw_iadd hf (pc := 2240) dL_law_2240 ?_
    refine xw_sald hf hX dL_law_2241 h.1 ?_
    have h := h.2
    refine xw_aload_n hf (pc := 2242) dL_law_2242 rfl 3 rfl ?_
    obtain ⟨mc694, ms695, mc696, ms697, ⟨hb1, hb2⟩, h⟩ := h
    refine xw_callSW hf (pc := 2243) (nA := 4) (Xr := [(a11, .inl (gI (xg x), 32, .inl v6)), (a12, .inl (gI (xg x), 32, .inl v7)), (a25, .inr (3, [.ref a26])), (a26, .inl (gI (xg x), 32, .inl v18)), (a27, .inr (9, [.int v19, .ref a28, .int v20, .ref a29, .ref a30, .ref a31, .ref a32, .ref v30, .ref v33, .ref v36, .int v21, .int v22, .ref a33, .int v23, .ref a34, .ref a35, .ref a36, .ref a37, .int v24])), (a28, .inl (gJ (xg x), 60, .inr (.inl v25))), (a29, .inl (gI (xg x), 27, .inl v26)), (a30, .inl (gI (xg x), 27, .inl v27)), (a31, .inl (gI (xg x), 27, .inl v28)), (a32, .inl (gI (xg x), 27, .inl v29)), (v30, .inl (gJ (xg x), v31, .inr (.inl v32))), (v33, .inl (gI (xg x), v34, .inl v35)), (v36, .inl (gZ (xg x), v37, .inl v38)), (a33, .inl (gI (xg x), 12, .inl v39)), (a34, .inl (gI (xg x), 27, .inl v40)), (a35, .inl (gI (xg x), 27, .inl v41)), (a36, .inl (gI (xg x), 60, .inl v42)), (a37, .inl (gI (xg x), 3, .inl v43))]) (rest := []) (c_L_cutToOrder (xl x) (xg x) hst a0 a1 a2 a3 a4 a5 a6 a7 a8 a9 a10 a13 a14 a15 a16 a17 a18 a19 a20 a21 a22 a23 a24 a38 a39 a25 a11 a12 v0 v1 v2 v3 v4 v5 v8 v9 v10 v11 v12 v13 v14 v15 v16 v17 v44 v45 ((((v47 (z4 + 1).toNatClampNeg).toInt64) <<< ((32 : Int32).toInt64 &&& 63)) ||| (((v47 (z4 + 2).toNatClampNeg).toInt64) &&& 4294967295)) (v47 (z4 + 3).toNatClampNeg) h) gL_law_L_cutToOrder (by rfl) rfl (by decide +kernel) ⟨⟨(Nat.le_of_ble_eq_true rfl), (Nat.le_of_ble_eq_true rfl)⟩, (Nat.le_trans (show k0 + mc694 ≤ k0 + rc by omega) hk.1), (Nat.le_trans (show n0 + ms695 ≤ n0 + rs by omega) hk.2)⟩ (Nat.le_of_ble_eq_true rfl) (sb_zc (sb_of [0, 1, 2, 3, 4, 5, 6, 7, 8, 9, 10, 13, 14, 15, 16, 17, 18, 19, 20, 21, 22, 23, 24, 41, 11, 12, 25, 26, 27, 28, 29, 30, 31, 32, 33, 34, 35, 36, 37, 38, 39, 40] rfl rfl)) rfl dL_law_2243 (fun v X1 hp => ?_)
    obtain ⟨r677, w678, w679, w680, w681, w682, w683, w684, w685, w686, w687, w688, w689, w690, w691, w692, w693, rfl, rfl, h⟩ := hp
    have hk : k0 + mc694 + mc696 ≤ (rm_L_law).cells ∧ n0 + ms695 + ms697 ≤ (rm_L_law).slots := ⟨Nat.le_trans (show k0 + mc694 + mc696 ≤ k0 + rc by omega) hk.1, Nat.le_trans (show n0 + ms695 + ms697 ≤ n0 + rs by omega) hk.2⟩
    refine xw_X (sb_cz (sb_of [0, 1, 2, 3, 4, 5, 6, 7, 8, 9, 10, 24, 25, 11, 12, 13, 14, 15, 16, 17, 18, 19, 20, 21, 22, 26, 27, 28, 29, 30, 31, 32, 33, 34, 35, 36, 37, 38, 39, 40, 41, 23] rfl rfl)) (show ww x (W_L_law (xg x) a0 a1 a2 a3 a4 a5 a6 a7 a8 a9 a10 a11 a12 a13 a14 a15 a16 a17 a18 a19 a20 a21 a22 a23 a24 a25 a26 a27 a28 a29 a30 a31 a32 a33 a34 a35 a36 a37 a38 a39 ab v0 v1 w678 w679 w680 w681 v6 v7 w682 w683 w684 w685 w686 w687 w688 w689 w690 w691 v18 v19 v20 v21 v22 v23 v24 v25 v26 v27 v28 v29 v30 v31 v32 v33 v34 v35 v36 v37 v38 v39 v40 v41 v42 v43 w692 v46 v47 ++ ZP (xg x) a39 w693) [(0, .ref ab), (1, .ref a0), (2, .ref a27), (3, .ref a38), (4, .int z4)] (k0 + mc694) (n0 + ms695) 2246 [.int r677] from ?_)
    refine xw_istore hf (pc := 2246) dL_law_2246 [(5, .int r677), (0, .ref ab), (1, .ref a0), (2, .ref a27), (3, .ref a38), (4, .int z4)] hn (by decide) rfl ?_
    refine xw_aload_n hf (pc := 2248) dL_law_2248 rfl 3 rfl ?_
    refine xw_aload_n hf (pc := 2249) dL_law_2249 rfl 1 rfl ?_
    refine xw_iload hf (pc := 2250) dL_law_2250 5 rfl ?_
    refine xw_iconst hf (pc := 2252) dL_law_2252 (v := 1) (by decide) ?_
    refine xw_iadd hf (pc := 2253) dL_law_2253 ?_
    refine xw_sald hf hX dL_law_2254 h.1 ?_
    have h := h.2
    refine xw_i2l hf (pc := 2255) dL_law_2255 ?_
    refine xw_bipush hf (pc := 2256) dL_law_2256 (v := 32) (by decide) ?_
    refine xw_lshl hf (pc := 2258) dL_law_2258 ?_
    refine xw_aload_n hf (pc := 2259) dL_law_2259 rfl 1 rfl ?_
    refine xw_iload hf (pc := 2260) dL_law_2260 5 rfl ?_
    refine xw_iconst hf (pc := 2262) dL_law_2262 (v := 2) (by decide) ?_
    refine xw_iadd hf (pc := 2263) dL_law_2263 ?_
    refine xw_sald hf hX dL_law_2264 h.1 ?_
    have h := h.2
    refine xw_i2l hf (pc := 2265) dL_law_2265 ?_
    refine xw_ldc2 hf (pc := 2266) dL_law_2266 mw_L_law_0 ?_
    refine xw_land hf (pc := 2269) dL_law_2269 ?_
    refine xw_lor hf (pc := 2270) dL_law_2270 ?_
    refine xw_aload_n hf (pc := 2271) dL_law_2271 rfl 1 rfl ?_
    refine xw_iload hf (pc := 2272) dL_law_2272 5 rfl ?_
    refine xw_iconst hf (pc := 2274) dL_law_2274 (v := 3) (by decide) ?_
    refine xw_iadd hf (pc := 2275) dL_law_2275 ?_
    refine xw_sald hf hX dL_law_2276 h.1 ?_
    have h := h.2
    obtain ⟨mc721, ms722, mc723, ms724, ⟨hb1, hb2⟩, h⟩ := h
    refine xw_callV hf (pc := 2277) (nA := 2) (Xr := [(a0, .inr (8, [.ref a1, .ref a8, .ref a13, .ref a18, .ref a25])), (a1, .inr (2, [.ref a2, .ref a4, .ref a6])), (a2, .inr (7, [.ref a3, .int v0])), (a3, .inl (gJ (xg x), 60, .inr (.inl v1))), (a4, .inr (7, [.ref a5, .int w678])), (a5, .inl (gJ (xg x), 60, .inr (.inl w679))), (a6, .inr (3, [.ref a7])), (a7, .inl (gI (xg x), 32, .inl w680)), (a8, .inr (6, [.ref a9, .ref a11, .ref a12])), (a9, .inr (3, [.ref a10])), (a10, .inl (gI (xg x), 32, .inl w681)), (a11, .inl (gI (xg x), 32, .inl v6)), (a12, .inl (gI (xg x), 32, .inl v7)), (a13, .inr (1, [.ref a39, .ref a14, .ref a16, .int w682])), (a14, .inr (3, [.ref a15])), (a15, .inl (gI (xg x), 32, .inl w683)), (a16, .inr (3, [.ref a17])), (a17, .inl (gI (xg x), 32, .inl w684)), (a18, .inr (4, [.ref a19, .ref a21, .ref a23, .int w685, .int w686])), (a19, .inr (3, [.ref a20])), (a20, .inl (gI (xg x), 32, .inl w687)), (a21, .inr (7, [.ref a22, .int w688])), (a22, .inl (gJ (xg x), 60, .inr (.inl w689))), (a23, .inr (7, [.ref a24, .int w690])), (a24, .inl (gJ (xg x), 60, .inr (.inl w691))), (a25, .inr (3, [.ref a26])), (a26, .inl (gI (xg x), 32, .inl v18)), (a30, .inl (gI (xg x), 27, .inl v27)), (a38, .inl (gJ (xg x), 1, .inr (.inl w692)))] ++ ZP (xg x) a39 w693) (rest := []) (T := TX9) (c_X9_cutToOrder (xl x) (xg x) a27 a28 a29 a31 a32 a33 a34 a35 a36 a37 a30 v19 v20 v21 v22 v23 v24 v25 v26 v28 v29 v30 v31 v32 v33 v34 v35 v36 v37 v38 v39 v40 v41 v42 v43 ((((v47 (z4 + 1).toNatClampNeg).toInt64) <<< ((32 : Int32).toInt64 &&& 63)) ||| (((v47 (z4 + 2).toNatClampNeg).toInt64) &&& 4294967295)) (v47 (z4 + 3).toNatClampNeg) h) gL_law_X9_cutToOrder (by rfl) rfl rfl (by decide +kernel) ⟨⟨(Nat.le_of_ble_eq_true rfl), (Nat.le_of_ble_eq_true rfl)⟩, (Nat.le_trans (show k0 + mc694 + mc721 ≤ k0 + mc694 + mc696 by omega) hk.1), (Nat.le_trans (show n0 + ms695 + ms722 ≤ n0 + ms695 + ms697 by omega) hk.2)⟩ (Nat.le_of_ble_eq_true rfl) rfl rfl (sb_zr (sb_of [27, 28, 29, 31, 32, 33, 34, 35, 36, 37, 38, 39, 40, 0, 1, 2, 3, 4, 5, 6, 7, 8, 9, 10, 11, 12, 13, 14, 15, 16, 17, 18, 19, 20, 21, 22, 23, 24, 25, 26, 30, 41] rfl rfl)) rfl dL_law_2277 (fun v X1 hp => ?_)
    obtain ⟨r698, w699, w700, w701, w702, w703, w704, w705, w706, w707, w708, w709, w710, w711, w712, w713, w714, w715, w716, w717, w718, w719, w720, rfl, rfl, h⟩ := hp
    have hk : k0 + mc694 + mc721 + mc723 ≤ (rm_L_law).cells ∧ n0 + ms695 + ms722 + ms724 ≤ (rm_L_law).slots := ⟨Nat.le_trans (show k0 + mc694 + mc721 + mc723 ≤ k0 + mc694 + mc696 by omega) hk.1, Nat.le_trans (show n0 + ms695 + ms722 + ms724 ≤ n0 + ms695 + ms697 by omega) hk.2⟩
    refine xw_X (sb_rz (sb_of [13, 14, 15, 16, 17, 18, 19, 20, 21, 22, 23, 24, 25, 26, 27, 28, 29, 30, 31, 32, 33, 34, 35, 36, 37, 38, 39, 0, 1, 2, 40, 3, 4, 5, 6, 7, 8, 9, 10, 11, 12, 41] rfl rfl)) (show ww x (W_L_law (xg x) a0 a1 a2 a3 a4 a5 a6 a7 a8 a9 a10 a11 a12 a13 a14 a15 a16 a17 a18 a19 a20 a21 a22 a23 a24 a25 a26 a27 a28 a29 a30 a31 a32 a33 a34 a35 a36 a37 a38 a39 ab v0 v1 w678 w679 w680 w681 v6 v7 w682 w683 w684 w685 w686 w687 w688 w689 w690 w691 v18 w699 v20 w700 w701 w702 w703 v25 w704 v27 w705 w706 w707 w708 w709 w710 w711 w712 w713 w714 w715 w716 w717 w718 w719 w720 w692 v46 v47 ++ ZP (xg x) a39 w693) [(5, .int r677), (0, .ref ab), (1, .ref a0), (2, .ref a27), (3, .ref a38), (4, .int z4)] (k0 + mc694 + mc721) (n0 + ms695 + ms722) 2280 [.int r698] from ?_)
    refine xw_istore hf (pc := 2280) dL_law_2280 [(6, .int r698), (5, .int r677), (0, .ref ab), (1, .ref a0), (2, .ref a27), (3, .ref a38), (4, .int z4)] hn (by decide) rfl ?_
    refine xw_aload_n hf (pc := 2282) dL_law_2282 rfl 4 rfl ?_
    refine xw_callV hf (pc := 2283) (nA := 0) (Xr := [(a0, .inr (8, [.ref a1, .ref a8, .ref a13, .ref a18, .ref a25])), (a1, .inr (2, [.ref a2, .ref a4, .ref a6])), (a2, .inr (7, [.ref a3, .int v0])), (a3, .inl (gJ (xg x), 60, .inr (.inl v1))), (a4, .inr (7, [.ref a5, .int w678])), (a5, .inl (gJ (xg x), 60, .inr (.inl w679))), (a6, .inr (3, [.ref a7])), (a7, .inl (gI (xg x), 32, .inl w680)), (a8, .inr (6, [.ref a9, .ref a11, .ref a12])), (a9, .inr (3, [.ref a10])), (a10, .inl (gI (xg x), 32, .inl w681)), (a11, .inl (gI (xg x), 32, .inl v6)), (a12, .inl (gI (xg x), 32, .inl v7)), (a13, .inr (1, [.ref a39, .ref a14, .ref a16, .int w682])), (a14, .inr (3, [.ref a15])), (a15, .inl (gI (xg x), 32, .inl w683)), (a16, .inr (3, [.ref a17])), (a17, .inl (gI (xg x), 32, .inl w684)), (a18, .inr (4, [.ref a19, .ref a21, .ref a23, .int w685, .int w686])), (a19, .inr (3, [.ref a20])), (a20, .inl (gI (xg x), 32, .inl w687)), (a21, .inr (7, [.ref a22, .int w688])), (a22, .inl (gJ (xg x), 60, .inr (.inl w689))), (a23, .inr (7, [.ref a24, .int w690])), (a24, .inl (gJ (xg x), 60, .inr (.inl w691))), (a25, .inr (3, [.ref a26])), (a26, .inl (gI (xg x), 32, .inl v18)), (a28, .inl (gJ (xg x), 60, .inr (.inl v25))), (a29, .inl (gI (xg x), 27, .inl w704)), (a30, .inl (gI (xg x), 27, .inl v27)), (a31, .inl (gI (xg x), 27, .inl w705)), (a32, .inl (gI (xg x), 27, .inl w706)), (w707, .inl (gJ (xg x), w708, .inr (.inl w709))), (w710, .inl (gI (xg x), w711, .inl w712)), (w713, .inl (gZ (xg x), w714, .inl w715)), (a33, .inl (gI (xg x), 12, .inl w716)), (a34, .inl (gI (xg x), 27, .inl w717)), (a35, .inl (gI (xg x), 27, .inl w718)), (a36, .inl (gI (xg x), 60, .inl w719)), (a37, .inl (gI (xg x), 3, .inl w720)), (a38, .inl (gJ (xg x), 1, .inr (.inl w692)))] ++ ZP (xg x) a39 w693) (rest := []) (T := TX9) (c_X9_thrown (xl x) (xg x) a27 a28 a29 a30 a31 a32 w707 w710 w713 a33 a34 a35 a36 a37 w699 v20 w700 w701 w702 w703 h) gL_law_X9_thrown (by rfl) rfl rfl (by decide +kernel) ⟨⟨(Nat.le_of_ble_eq_true rfl), (Nat.le_of_ble_eq_true rfl)⟩, (Nat.le_trans (Nat.le_add_right _ _) hk.1), (Nat.le_trans (Nat.le_add_right _ _) hk.2)⟩ (Nat.le_of_ble_eq_true rfl) rfl rfl (sb_zr (sb_of [27, 0, 1, 2, 3, 4, 5, 6, 7, 8, 9, 10, 11, 12, 13, 14, 15, 16, 17, 18, 19, 20, 21, 22, 23, 24, 25, 26, 28, 29, 30, 31, 32, 33, 34, 35, 36, 37, 38, 39, 40, 41] rfl rfl)) rfl dL_law_2283 (fun v X1 hp => ?_)
    obtain ⟨r725, rfl, rfl, h⟩ := hp
    refine xw_X (sb_rz (sb_of [1, 2, 3, 4, 5, 6, 7, 8, 9, 10, 11, 12, 13, 14, 15, 16, 17, 18, 19, 20, 21, 22, 23, 24, 25, 26, 27, 0, 28, 29, 30, 31, 32, 33, 34, 35, 36, 37, 38, 39, 40, 41] rfl rfl)) (show ww x (W_L_law (xg x) a0 a1 a2 a3 a4 a5 a6 a7 a8 a9 a10 a11 a12 a13 a14 a15 a16 a17 a18 a19 a20 a21 a22 a23 a24 a25 a26 a27 a28 a29 a30 a31 a32 a33 a34 a35 a36 a37 a38 a39 ab v0 v1 w678 w679 w680 w681 v6 v7 w682 w683 w684 w685 w686 w687 w688 w689 w690 w691 v18 w699 v20 w700 w701 w702 w703 v25 w704 v27 w705 w706 w707 w708 w709 w710 w711 w712 w713 w714 w715 w716 w717 w718 w719 w720 w692 v46 v47 ++ ZP (xg x) a39 w693) [(6, .int r698), (5, .int r677), (0, .ref ab), (1, .ref a0), (2, .ref a27), (3, .ref a38), (4, .int z4)] (k0 + mc694 + mc721) (n0 + ms695 + ms722) 2286 [.int r725] from ?_)
    refine xw_iload hf (pc := 2286) dL_law_2286 1 rfl ?_
    refine xw_icmp_eq hf (pc := 2288) dL_law_2288 (tgt := 2293) rfl ⟨fun c => ?_, fun c => ?_⟩
    · have h := h.1 c
      refine xw_iload hf (pc := 2293) dL_law_2293 1 rfl ?_
      refine xw_if_ne hf (pc := 2295) dL_law_2295 (c := r677 = 0) Iff.rfl (tgt := 2310) rfl ⟨fun c => ?_, fun c => ?_⟩
      · have h := h.1 c
        refine xw_aload_n hf (pc := 2298) dL_law_2298 rfl 5 rfl ?_
        refine xw_iconst hf (pc := 2299) dL_law_2299 (v := 0) (by decide) ?_
        refine xw_lald hf (pc := 2300) dL_law_2300 41 rfl h.1 ?_
        have h := h.2
        refine xw_iload hf (pc := 2301) dL_law_2301 0 rfl ?_
        refine xw_i2l hf (pc := 2303) dL_law_2303 ?_
        refine xw_lcmp hf (pc := 2304) dL_law_2304 ?_
        refine xw_if_eq hf (pc := 2305) dL_law_2305 (c := (w692 (0 : Int32).toNatClampNeg) = r698.toInt64) (lc_eq _ _) (tgt := 2310) rfl ⟨fun c => ?_, fun c => ?_⟩
        · have h := h.1 c
          refine xw_goto hf (pc := 2310) dL_law_2310 (tgt := 2681) rfl ?_
          refine xw_L [2, 3, 4, 5, 6] rfl ?_
          exact hK2681 _ _ _ _ hk _ _ _ _ _ _ _ _ _ _ _ _ _ _ _ _ _ _ _ _ _ _ _ _ _ _ _ _ _ _ _ _ _ _ _ _ _ _ h
        · have h := h.2 c
          refine xw_iconst hf (pc := 2308) dL_law_2308 (v := 0) (by decide) ?_
          exact h.elim
      · have h := h.2 c
        refine xw_goto hf (pc := 2310) dL_law_2310 (tgt := 2681) rfl ?_
        refine xw_L [2, 3, 4, 5, 6] rfl ?_
        exact hK2681 _ _ _ _ hk _ _ _ _ _ _ _ _ _ _ _ _ _ _ _ _ _ _ _ _ _ _ _ _ _ _ _ _ _ _ _ _ _ _ _ _ _ _ h
    · have h := h.2 c
      refine xw_iconst hf (pc := 2291) dL_law_2291 (v := 0) (by decide) ?_
      exact h.elim
set_option maxHeartbeats 4000000 in
set_option maxRecDepth 100000 in
theorem w_L_law_L2313 {x : Cx} {mc ms : Nat} (hf : fx x (rm_L_law) RL cL_law wsL_law) (hn : xn x = 8) {k0 n0 rc rs : Nat} (hk : k0 + rc ≤ (rm_L_law).cells ∧ n0 + rs ≤ (rm_L_law).slots) (a0 a1 a2 a3 a4 a5 a6 a7 a8 a9 a10 a11 a12 a13 a14 a15 a16 a17 a18 a19 a20 a21 a22 a23 a24 a25 a26 a27 a28 a29 a30 a31 a32 a33 a34 a35 a36 a37 a38 a39 ab : Nat) (z4 : Int32) (v8 : Int32) (v20 : Int32) (v21 : Int32) (v22 : Int32) (v23 : Int32) (v24 : Int32) (v45 : ZL) (v0 : Int32) (v1 : Nat → Int64) (v2 : Int32) (v3 : Nat → Int64) (v4 : Nat → Int32) (v5 : Nat → Int32) (v6 : Nat → Int32) (v7 : Nat → Int32) (v9 : Nat → Int32) (v10 : Nat → Int32) (v11 : Int32) (v12 : Int32) (v13 : Nat → Int32) (v14 : Int32) (v15 : Nat → Int64) (v16 : Int32) (v17 : Nat → Int64) (v18 : Nat → Int32) (v25 : Nat → Int64) (v26 : Nat → Int32) (v27 : Nat → Int32) (v28 : Nat → Int32) (v29 : Nat → Int32) (v30 : Nat) (v31 : Nat) (v32 : Nat → Int64) (v33 : Nat) (v34 : Nat) (v35 : Nat → Int32) (v36 : Nat) (v37 : Nat) (v38 : Nat → Int32) (v39 : Nat → Int32) (v40 : Nat → Int32) (v41 : Nat → Int32) (v42 : Nat → Int32) (v43 : Nat → Int32) (v44 : Nat → Int64) (v46 : Nat) (v47 : Nat → Int32) {K2681 : Nat → Nat → Int32 → Prop} (hst : (xl x).stackTraces = false) (hX : sX x ab v46 v47)
    (n : Nat) (v19 : Int32) (h : P_L_law_L2313 z4 v8 v20 v21 v22 v23 v24 v45 K2681 n rc rs v19)
    (hK2681 : ∀ (k0 n0 rc rs : Nat), k0 + rc ≤ (rm_L_law).cells ∧ n0 + rs ≤ (rm_L_law).slots → ∀ (uv19 : Int32), K2681 rc rs uv19 → ww x (W_L_law (xg x) a0 a1 a2 a3 a4 a5 a6 a7 a8 a9 a10 a11 a12 a13 a14 a15 a16 a17 a18 a19 a20 a21 a22 a23 a24 a25 a26 a27 a28 a29 a30 a31 a32 a33 a34 a35 a36 a37 a38 a39 ab v0 v1 v2 v3 v4 v5 v6 v7 v8 v9 v10 v11 v12 v13 v14 v15 v16 v17 v18 uv19 v20 v21 v22 v23 v24 v25 v26 v27 v28 v29 v30 v31 v32 v33 v34 v35 v36 v37 v38 v39 v40 v41 v42 v43 v44 v46 v47 ++ ZP (xg x) a39 v45) [(0, .ref ab), (1, .ref a0), (2, .ref a27), (3, .ref a38), (4, .int z4)] k0 n0 2681 []) :
    ww x (W_L_law (xg x) a0 a1 a2 a3 a4 a5 a6 a7 a8 a9 a10 a11 a12 a13 a14 a15 a16 a17 a18 a19 a20 a21 a22 a23 a24 a25 a26 a27 a28 a29 a30 a31 a32 a33 a34 a35 a36 a37 a38 a39 ab v0 v1 v2 v3 v4 v5 v6 v7 v8 v9 v10 v11 v12 v13 v14 v15 v16 v17 v18 v19 v20 v21 v22 v23 v24 v25 v26 v27 v28 v29 v30 v31 v32 v33 v34 v35 v36 v37 v38 v39 v40 v41 v42 v43 v44 v46 v47 ++ ZP (xg x) a39 v45) [(0, .ref ab), (1, .ref a0), (2, .ref a27), (3, .ref a38), (4, .int z4)] k0 n0 2313 [] := by
  induction n generalizing k0 n0 rc rs v19 with
  | zero => exact h.elim
  | succ n ih =>
    unfold P_L_law_L2313 at h
    refine xw_aload_n hf (pc := 2313) dL_law_2313 rfl 1 rfl ?_
    refine xw_callV hf (pc := 2314) (nA := 0) (Xr := [(a1, .inr (2, [.ref a2, .ref a4, .ref a6])), (a2, .inr (7, [.ref a3, .int v0])), (a3, .inl (gJ (xg x), 60, .inr (.inl v1))), (a4, .inr (7, [.ref a5, .int v2])), (a5, .inl (gJ (xg x), 60, .inr (.inl v3))), (a6, .inr (3, [.ref a7])), (a7, .inl (gI (xg x), 32, .inl v4)), (a8, .inr (6, [.ref a9, .ref a11, .ref a12])), (a9, .inr (3, [.ref a10])), (a10, .inl (gI (xg x), 32, .inl v5)), (a11, .inl (gI (xg x), 32, .inl v6)), (a12, .inl (gI (xg x), 32, .inl v7)), (a14, .inr (3, [.ref a15])), (a15, .inl (gI (xg x), 32, .inl v9)), (a16, .inr (3, [.ref a17])), (a17, .inl (gI (xg x), 32, .inl v10)), (a18, .inr (4, [.ref a19, .ref a21, .ref a23, .int v11, .int v12])), (a19, .inr (3, [.ref a20])), (a20, .inl (gI (xg x), 32, .inl v13)), (a21, .inr (7, [.ref a22, .int v14])), (a22, .inl (gJ (xg x), 60, .inr (.inl v15))), (a23, .inr (7, [.ref a24, .int v16])), (a24, .inl (gJ (xg x), 60, .inr (.inl v17))), (a25, .inr (3, [.ref a26])), (a26, .inl (gI (xg x), 32, .inl v18)), (a27, .inr (9, [.int v19, .ref a28, .int v20, .ref a29, .ref a30, .ref a31, .ref a32, .ref v30, .ref v33, .ref v36, .int v21, .int v22, .ref a33, .int v23, .ref a34, .ref a35, .ref a36, .ref a37, .int v24])), (a28, .inl (gJ (xg x), 60, .inr (.inl v25))), (a29, .inl (gI (xg x), 27, .inl v26)), (a30, .inl (gI (xg x), 27, .inl v27)), (a31, .inl (gI (xg x), 27, .inl v28)), (a32, .inl (gI (xg x), 27, .inl v29)), (v30, .inl (gJ (xg x), v31, .inr (.inl v32))), (v33, .inl (gI (xg x), v34, .inl v35)), (v36, .inl (gZ (xg x), v37, .inl v38)), (a33, .inl (gI (xg x), 12, .inl v39)), (a34, .inl (gI (xg x), 27, .inl v40)), (a35, .inl (gI (xg x), 27, .inl v41)), (a36, .inl (gI (xg x), 60, .inl v42)), (a37, .inl (gI (xg x), 3, .inl v43)), (a38, .inl (gJ (xg x), 1, .inr (.inl v44)))]) (rest := []) (T := TX8) (c_X8_receiptCount (xl x) (xg x) a0 a13 a39 a1 a8 a18 a25 a14 a16 v8 v45 h) gL_law_X8_receiptCount (by rfl) rfl rfl (by decide +kernel) ⟨⟨(Nat.le_of_ble_eq_true rfl), (Nat.le_of_ble_eq_true rfl)⟩, (Nat.le_trans (Nat.le_add_right _ _) hk.1), (Nat.le_trans (Nat.le_add_right _ _) hk.2)⟩ (Nat.le_of_ble_eq_true rfl) rfl rfl (sb_zc (sb_of [0, 13, 1, 2, 3, 4, 5, 6, 7, 8, 9, 10, 11, 12, 14, 15, 16, 17, 18, 19, 20, 21, 22, 23, 24, 25, 26, 27, 28, 29, 30, 31, 32, 33, 34, 35, 36, 37, 38, 39, 40, 41] rfl rfl)) rfl dL_law_2314 (fun v X1 hp => ?_)
    obtain ⟨r768, rfl, rfl, h⟩ := hp
    refine xw_X (sb_cz (sb_of [0, 2, 3, 4, 5, 6, 7, 8, 9, 10, 11, 12, 13, 1, 14, 15, 16, 17, 18, 19, 20, 21, 22, 23, 24, 25, 26, 27, 28, 29, 30, 31, 32, 33, 34, 35, 36, 37, 38, 39, 40, 41] rfl rfl)) (show ww x (W_L_law (xg x) a0 a1 a2 a3 a4 a5 a6 a7 a8 a9 a10 a11 a12 a13 a14 a15 a16 a17 a18 a19 a20 a21 a22 a23 a24 a25 a26 a27 a28 a29 a30 a31 a32 a33 a34 a35 a36 a37 a38 a39 ab v0 v1 v2 v3 v4 v5 v6 v7 v8 v9 v10 v11 v12 v13 v14 v15 v16 v17 v18 v19 v20 v21 v22 v23 v24 v25 v26 v27 v28 v29 v30 v31 v32 v33 v34 v35 v36 v37 v38 v39 v40 v41 v42 v43 v44 v46 v47 ++ ZP (xg x) a39 v45) [(0, .ref ab), (1, .ref a0), (2, .ref a27), (3, .ref a38), (4, .int z4)] k0 n0 2317 [.int r768] from ?_)
    refine xw_aload_n hf (pc := 2317) dL_law_2317 rfl 2 rfl ?_
    refine xw_callV hf (pc := 2318) (nA := 0) (Xr := [(a0, .inr (8, [.ref a1, .ref a8, .ref a13, .ref a18, .ref a25])), (a1, .inr (2, [.ref a2, .ref a4, .ref a6])), (a2, .inr (7, [.ref a3, .int v0])), (a3, .inl (gJ (xg x), 60, .inr (.inl v1))), (a4, .inr (7, [.ref a5, .int v2])), (a5, .inl (gJ (xg x), 60, .inr (.inl v3))), (a6, .inr (3, [.ref a7])), (a7, .inl (gI (xg x), 32, .inl v4)), (a8, .inr (6, [.ref a9, .ref a11, .ref a12])), (a9, .inr (3, [.ref a10])), (a10, .inl (gI (xg x), 32, .inl v5)), (a11, .inl (gI (xg x), 32, .inl v6)), (a12, .inl (gI (xg x), 32, .inl v7)), (a13, .inr (1, [.ref a39, .ref a14, .ref a16, .int v8])), (a14, .inr (3, [.ref a15])), (a15, .inl (gI (xg x), 32, .inl v9)), (a16, .inr (3, [.ref a17])), (a17, .inl (gI (xg x), 32, .inl v10)), (a18, .inr (4, [.ref a19, .ref a21, .ref a23, .int v11, .int v12])), (a19, .inr (3, [.ref a20])), (a20, .inl (gI (xg x), 32, .inl v13)), (a21, .inr (7, [.ref a22, .int v14])), (a22, .inl (gJ (xg x), 60, .inr (.inl v15))), (a23, .inr (7, [.ref a24, .int v16])), (a24, .inl (gJ (xg x), 60, .inr (.inl v17))), (a25, .inr (3, [.ref a26])), (a26, .inl (gI (xg x), 32, .inl v18)), (a28, .inl (gJ (xg x), 60, .inr (.inl v25))), (a29, .inl (gI (xg x), 27, .inl v26)), (a30, .inl (gI (xg x), 27, .inl v27)), (a31, .inl (gI (xg x), 27, .inl v28)), (a32, .inl (gI (xg x), 27, .inl v29)), (v30, .inl (gJ (xg x), v31, .inr (.inl v32))), (v33, .inl (gI (xg x), v34, .inl v35)), (v36, .inl (gZ (xg x), v37, .inl v38)), (a33, .inl (gI (xg x), 12, .inl v39)), (a34, .inl (gI (xg x), 27, .inl v40)), (a35, .inl (gI (xg x), 27, .inl v41)), (a36, .inl (gI (xg x), 60, .inl v42)), (a37, .inl (gI (xg x), 3, .inl v43)), (a38, .inl (gJ (xg x), 1, .inr (.inl v44)))] ++ ZP (xg x) a39 v45) (rest := [.int r768]) (T := TX9) (c_X9_receiptCount (xl x) (xg x) a27 a28 a29 a30 a31 a32 v30 v33 v36 a33 a34 a35 a36 a37 v19 v20 v21 v22 v23 v24 h) gL_law_X9_receiptCount (by rfl) rfl rfl (by decide +kernel) ⟨⟨(Nat.le_of_ble_eq_true rfl), (Nat.le_of_ble_eq_true rfl)⟩, (Nat.le_trans (Nat.le_add_right _ _) hk.1), (Nat.le_trans (Nat.le_add_right _ _) hk.2)⟩ (Nat.le_of_ble_eq_true rfl) rfl rfl (sb_zr (sb_of [27, 0, 1, 2, 3, 4, 5, 6, 7, 8, 9, 10, 11, 12, 13, 14, 15, 16, 17, 18, 19, 20, 21, 22, 23, 24, 25, 26, 28, 29, 30, 31, 32, 33, 34, 35, 36, 37, 38, 39, 40, 41] rfl rfl)) rfl dL_law_2318 (fun v X1 hp => ?_)
    obtain ⟨r769, w770, rfl, rfl, h⟩ := hp
    refine xw_X (sb_rz (sb_of [1, 2, 3, 4, 5, 6, 7, 8, 9, 10, 11, 12, 13, 14, 15, 16, 17, 18, 19, 20, 21, 22, 23, 24, 25, 26, 27, 0, 28, 29, 30, 31, 32, 33, 34, 35, 36, 37, 38, 39, 40, 41] rfl rfl)) (show ww x (W_L_law (xg x) a0 a1 a2 a3 a4 a5 a6 a7 a8 a9 a10 a11 a12 a13 a14 a15 a16 a17 a18 a19 a20 a21 a22 a23 a24 a25 a26 a27 a28 a29 a30 a31 a32 a33 a34 a35 a36 a37 a38 a39 ab v0 v1 v2 v3 v4 v5 v6 v7 v8 v9 v10 v11 v12 v13 v14 v15 v16 v17 v18 w770 v20 v21 v22 v23 v24 v25 v26 v27 v28 v29 v30 v31 v32 v33 v34 v35 v36 v37 v38 v39 v40 v41 v42 v43 v44 v46 v47 ++ ZP (xg x) a39 v45) [(0, .ref ab), (1, .ref a0), (2, .ref a27), (3, .ref a38), (4, .int z4)] k0 n0 2321 [.int r769, .int r768] from ?_)
    refine xw_icmp_eq hf (pc := 2321) dL_law_2321 (tgt := 2681) rfl ⟨fun c => ?_, fun c => ?_⟩
    · have h := h.1 c
      refine xw_L [0, 1, 2, 3, 4] rfl ?_
      exact hK2681 _ _ _ _ hk _ h
    · have h := h.2 c
      refine xw_iconst hf (pc := 2324) dL_law_2324 (v := 0) (by decide) ?_
      exact h.elim
set_option maxHeartbeats 4000000 in
set_option maxRecDepth 100000 in
theorem w_L_law_L2326 {x : Cx} {mc ms : Nat} (hf : fx x (rm_L_law) RL cL_law wsL_law) (hn : xn x = 8) {k0 n0 rc rs : Nat} (hk : k0 + rc ≤ (rm_L_law).cells ∧ n0 + rs ≤ (rm_L_law).slots) (a0 a1 a2 a3 a4 a5 a6 a7 a8 a9 a10 a11 a12 a13 a14 a15 a16 a17 a18 a19 a20 a21 a22 a23 a24 a25 a26 a27 a28 a29 a30 a31 a32 a33 a34 a35 a36 a37 a38 a39 ab : Nat) (z4 : Int32) (v8 : Int32) (v20 : Int32) (v21 : Int32) (v22 : Int32) (v23 : Int32) (v24 : Int32) (v30 : Nat) (v31 : Nat) (v32 : Nat → Int64) (v45 : ZL) (v46 : Nat) (v47 : Nat → Int32) (v0 : Int32) (v1 : Nat → Int64) (v2 : Int32) (v3 : Nat → Int64) (v4 : Nat → Int32) (v5 : Nat → Int32) (v6 : Nat → Int32) (v7 : Nat → Int32) (v9 : Nat → Int32) (v10 : Nat → Int32) (v11 : Int32) (v12 : Int32) (v13 : Nat → Int32) (v14 : Int32) (v15 : Nat → Int64) (v16 : Int32) (v17 : Nat → Int64) (v18 : Nat → Int32) (v25 : Nat → Int64) (v26 : Nat → Int32) (v27 : Nat → Int32) (v28 : Nat → Int32) (v29 : Nat → Int32) (v33 : Nat) (v34 : Nat) (v35 : Nat → Int32) (v36 : Nat) (v37 : Nat) (v38 : Nat → Int32) (v39 : Nat → Int32) (v40 : Nat → Int32) (v41 : Nat → Int32) (v42 : Nat → Int32) (v43 : Nat → Int32) {K2681 : Nat → Nat → Int32 → (Nat → Int64) → Prop} (hst : (xl x).stackTraces = false) (hX : sX x ab v46 v47)
    (n : Nat) (v19 : Int32) (v44 : Nat → Int64) (h : P_L_law_L2326 z4 v8 v20 v21 v22 v23 v24 v30 v31 v32 v45 v46 v47 K2681 n rc rs v19 v44)
    (hK2681 : ∀ (k0 n0 rc rs : Nat), k0 + rc ≤ (rm_L_law).cells ∧ n0 + rs ≤ (rm_L_law).slots → ∀ (uv19 : Int32), ∀ (uv44 : Nat → Int64), K2681 rc rs uv19 uv44 → ww x (W_L_law (xg x) a0 a1 a2 a3 a4 a5 a6 a7 a8 a9 a10 a11 a12 a13 a14 a15 a16 a17 a18 a19 a20 a21 a22 a23 a24 a25 a26 a27 a28 a29 a30 a31 a32 a33 a34 a35 a36 a37 a38 a39 ab v0 v1 v2 v3 v4 v5 v6 v7 v8 v9 v10 v11 v12 v13 v14 v15 v16 v17 v18 uv19 v20 v21 v22 v23 v24 v25 v26 v27 v28 v29 v30 v31 v32 v33 v34 v35 v36 v37 v38 v39 v40 v41 v42 v43 uv44 v46 v47 ++ ZP (xg x) a39 v45) [(0, .ref ab), (1, .ref a0), (2, .ref a27), (3, .ref a38), (4, .int z4)] k0 n0 2681 []) :
    ww x (W_L_law (xg x) a0 a1 a2 a3 a4 a5 a6 a7 a8 a9 a10 a11 a12 a13 a14 a15 a16 a17 a18 a19 a20 a21 a22 a23 a24 a25 a26 a27 a28 a29 a30 a31 a32 a33 a34 a35 a36 a37 a38 a39 ab v0 v1 v2 v3 v4 v5 v6 v7 v8 v9 v10 v11 v12 v13 v14 v15 v16 v17 v18 v19 v20 v21 v22 v23 v24 v25 v26 v27 v28 v29 v30 v31 v32 v33 v34 v35 v36 v37 v38 v39 v40 v41 v42 v43 v44 v46 v47 ++ ZP (xg x) a39 v45) [(0, .ref ab), (1, .ref a0), (2, .ref a27), (3, .ref a38), (4, .int z4)] k0 n0 2326 [] := by
  induction n generalizing k0 n0 rc rs v19 v44 with
  | zero => exact h.elim
  | succ n ih =>
    unfold P_L_law_L2326 at h
    refine xw_aload_n hf (pc := 2326) dL_law_2326 rfl 1 rfl ?_
    refine xw_aload_n hf (pc := 2327) dL_law_2327 rfl 0 rfl ?_
    refine xw_iload hf (pc := 2328) dL_law_2328 4 rfl ?_
    refine xw_iconst hf (pc := 2330) dL_law_2330 (v := 1) (by decide) ?_
    refine xw_iadd hf (pc := 2331) dL_law_2331 ?_
    refine xw_sald hf hX dL_law_2332 h.1 ?_
    have h := h.2
    refine xw_aload_n hf (pc := 2333) dL_law_2333 rfl 3 rfl ?_
    obtain ⟨mc778, ms779, ⟨hb1, hb2⟩, h⟩ := h
    refine xw_callSW hf (pc := 2334) (nA := 3) (Xr := [(a1, .inr (2, [.ref a2, .ref a4, .ref a6])), (a2, .inr (7, [.ref a3, .int v0])), (a3, .inl (gJ (xg x), 60, .inr (.inl v1))), (a4, .inr (7, [.ref a5, .int v2])), (a5, .inl (gJ (xg x), 60, .inr (.inl v3))), (a6, .inr (3, [.ref a7])), (a7, .inl (gI (xg x), 32, .inl v4)), (a8, .inr (6, [.ref a9, .ref a11, .ref a12])), (a9, .inr (3, [.ref a10])), (a10, .inl (gI (xg x), 32, .inl v5)), (a11, .inl (gI (xg x), 32, .inl v6)), (a12, .inl (gI (xg x), 32, .inl v7)), (a14, .inr (3, [.ref a15])), (a15, .inl (gI (xg x), 32, .inl v9)), (a16, .inr (3, [.ref a17])), (a17, .inl (gI (xg x), 32, .inl v10)), (a18, .inr (4, [.ref a19, .ref a21, .ref a23, .int v11, .int v12])), (a19, .inr (3, [.ref a20])), (a20, .inl (gI (xg x), 32, .inl v13)), (a21, .inr (7, [.ref a22, .int v14])), (a22, .inl (gJ (xg x), 60, .inr (.inl v15))), (a23, .inr (7, [.ref a24, .int v16])), (a24, .inl (gJ (xg x), 60, .inr (.inl v17))), (a25, .inr (3, [.ref a26])), (a26, .inl (gI (xg x), 32, .inl v18)), (a27, .inr (9, [.int v19, .ref a28, .int v20, .ref a29, .ref a30, .ref a31, .ref a32, .ref v30, .ref v33, .ref v36, .int v21, .int v22, .ref a33, .int v23, .ref a34, .ref a35, .ref a36, .ref a37, .int v24])), (a28, .inl (gJ (xg x), 60, .inr (.inl v25))), (a29, .inl (gI (xg x), 27, .inl v26)), (a30, .inl (gI (xg x), 27, .inl v27)), (a31, .inl (gI (xg x), 27, .inl v28)), (a32, .inl (gI (xg x), 27, .inl v29)), (v30, .inl (gJ (xg x), v31, .inr (.inl v32))), (v33, .inl (gI (xg x), v34, .inl v35)), (v36, .inl (gZ (xg x), v37, .inl v38)), (a33, .inl (gI (xg x), 12, .inl v39)), (a34, .inl (gI (xg x), 27, .inl v40)), (a35, .inl (gI (xg x), 27, .inl v41)), (a36, .inl (gI (xg x), 60, .inl v42)), (a37, .inl (gI (xg x), 3, .inl v43))]) (rest := []) (c_L_receiptWord (xl x) (xg x) hst a0 a13 a38 a39 a1 a8 a18 a25 a14 a16 v8 v44 v45 (v47 (z4 + 1).toNatClampNeg) h) gL_law_L_receiptWord (by rfl) rfl (by decide +kernel) ⟨⟨(Nat.le_of_ble_eq_true rfl), (Nat.le_of_ble_eq_true rfl)⟩, (Nat.le_trans (show k0 + 1 ≤ k0 + rc by omega) hk.1), (Nat.le_trans (show n0 + 6 ≤ n0 + rs by omega) hk.2)⟩ (Nat.le_of_ble_eq_true rfl) (sb_zc (sb_of [0, 13, 41, 1, 2, 3, 4, 5, 6, 7, 8, 9, 10, 11, 12, 14, 15, 16, 17, 18, 19, 20, 21, 22, 23, 24, 25, 26, 27, 28, 29, 30, 31, 32, 33, 34, 35, 36, 37, 38, 39, 40] rfl rfl)) rfl dL_law_2334 (fun v X1 hp => ?_)
    obtain ⟨r776, w777, rfl, rfl, h⟩ := hp
    have hk : k0 + 1 + mc778 ≤ (rm_L_law).cells ∧ n0 + 6 + ms779 ≤ (rm_L_law).slots := ⟨Nat.le_trans (show k0 + 1 + mc778 ≤ k0 + rc by omega) hk.1, Nat.le_trans (show n0 + 6 + ms779 ≤ n0 + rs by omega) hk.2⟩
    refine xw_X (sb_cz (sb_of [0, 3, 4, 5, 6, 7, 8, 9, 10, 11, 12, 13, 14, 1, 15, 16, 17, 18, 19, 20, 21, 22, 23, 24, 25, 26, 27, 28, 29, 30, 31, 32, 33, 34, 35, 36, 37, 38, 39, 40, 41, 2] rfl rfl)) (show ww x (W_L_law (xg x) a0 a1 a2 a3 a4 a5 a6 a7 a8 a9 a10 a11 a12 a13 a14 a15 a16 a17 a18 a19 a20 a21 a22 a23 a24 a25 a26 a27 a28 a29 a30 a31 a32 a33 a34 a35 a36 a37 a38 a39 ab v0 v1 v2 v3 v4 v5 v6 v7 v8 v9 v10 v11 v12 v13 v14 v15 v16 v17 v18 v19 v20 v21 v22 v23 v24 v25 v26 v27 v28 v29 v30 v31 v32 v33 v34 v35 v36 v37 v38 v39 v40 v41 v42 v43 w777 v46 v47 ++ ZP (xg x) a39 v45) [(0, .ref ab), (1, .ref a0), (2, .ref a27), (3, .ref a38), (4, .int z4)] (k0 + 1) (n0 + 6) 2337 [.int r776] from ?_)
    refine xw_istore hf (pc := 2337) dL_law_2337 [(5, .int r776), (0, .ref ab), (1, .ref a0), (2, .ref a27), (3, .ref a38), (4, .int z4)] hn (by decide) rfl ?_
    refine xw_aload_n hf (pc := 2339) dL_law_2339 rfl 3 rfl ?_
    refine xw_aload_n hf (pc := 2340) dL_law_2340 rfl 1 rfl ?_
    refine xw_iload hf (pc := 2341) dL_law_2341 5 rfl ?_
    refine xw_iconst hf (pc := 2343) dL_law_2343 (v := 1) (by decide) ?_
    refine xw_iadd hf (pc := 2344) dL_law_2344 ?_
    refine xw_sald hf hX dL_law_2345 h.1 ?_
    have h := h.2
    refine xw_callV hf (pc := 2346) (nA := 1) (Xr := [(a0, .inr (8, [.ref a1, .ref a8, .ref a13, .ref a18, .ref a25])), (a1, .inr (2, [.ref a2, .ref a4, .ref a6])), (a2, .inr (7, [.ref a3, .int v0])), (a3, .inl (gJ (xg x), 60, .inr (.inl v1))), (a4, .inr (7, [.ref a5, .int v2])), (a5, .inl (gJ (xg x), 60, .inr (.inl v3))), (a6, .inr (3, [.ref a7])), (a7, .inl (gI (xg x), 32, .inl v4)), (a8, .inr (6, [.ref a9, .ref a11, .ref a12])), (a9, .inr (3, [.ref a10])), (a10, .inl (gI (xg x), 32, .inl v5)), (a11, .inl (gI (xg x), 32, .inl v6)), (a12, .inl (gI (xg x), 32, .inl v7)), (a13, .inr (1, [.ref a39, .ref a14, .ref a16, .int v8])), (a14, .inr (3, [.ref a15])), (a15, .inl (gI (xg x), 32, .inl v9)), (a16, .inr (3, [.ref a17])), (a17, .inl (gI (xg x), 32, .inl v10)), (a18, .inr (4, [.ref a19, .ref a21, .ref a23, .int v11, .int v12])), (a19, .inr (3, [.ref a20])), (a20, .inl (gI (xg x), 32, .inl v13)), (a21, .inr (7, [.ref a22, .int v14])), (a22, .inl (gJ (xg x), 60, .inr (.inl v15))), (a23, .inr (7, [.ref a24, .int v16])), (a24, .inl (gJ (xg x), 60, .inr (.inl v17))), (a25, .inr (3, [.ref a26])), (a26, .inl (gI (xg x), 32, .inl v18)), (a28, .inl (gJ (xg x), 60, .inr (.inl v25))), (a29, .inl (gI (xg x), 27, .inl v26)), (a30, .inl (gI (xg x), 27, .inl v27)), (a31, .inl (gI (xg x), 27, .inl v28)), (a32, .inl (gI (xg x), 27, .inl v29)), (v33, .inl (gI (xg x), v34, .inl v35)), (v36, .inl (gZ (xg x), v37, .inl v38)), (a33, .inl (gI (xg x), 12, .inl v39)), (a34, .inl (gI (xg x), 27, .inl v40)), (a35, .inl (gI (xg x), 27, .inl v41)), (a36, .inl (gI (xg x), 60, .inl v42)), (a37, .inl (gI (xg x), 3, .inl v43)), (a38, .inl (gJ (xg x), 1, .inr (.inl w777)))] ++ ZP (xg x) a39 v45) (rest := []) (T := TX9) (c_X9_receiptWord (xl x) (xg x) a27 a28 a29 a30 a31 a32 v33 v36 a33 a34 a35 a36 a37 v19 v20 v21 v22 v23 v24 v30 v31 v32 (v47 (z4 + 1).toNatClampNeg) h) gL_law_X9_receiptWord (by rfl) rfl rfl (by decide +kernel) ⟨⟨(Nat.le_of_ble_eq_true rfl), (Nat.le_of_ble_eq_true rfl)⟩, (Nat.le_trans (Nat.le_add_right _ _) hk.1), (Nat.le_trans (Nat.le_add_right _ _) hk.2)⟩ (Nat.le_of_ble_eq_true rfl) rfl rfl (sb_zr (sb_of [27, 33, 0, 1, 2, 3, 4, 5, 6, 7, 8, 9, 10, 11, 12, 13, 14, 15, 16, 17, 18, 19, 20, 21, 22, 23, 24, 25, 26, 28, 29, 30, 31, 32, 34, 35, 36, 37, 38, 39, 40, 41] rfl rfl)) rfl dL_law_2346 (fun v X1 hp => ?_)
    obtain ⟨r780, w781, rfl, rfl, h⟩ := hp
    refine xw_X (sb_rz (sb_of [2, 3, 4, 5, 6, 7, 8, 9, 10, 11, 12, 13, 14, 15, 16, 17, 18, 19, 20, 21, 22, 23, 24, 25, 26, 27, 28, 0, 29, 30, 31, 32, 33, 1, 34, 35, 36, 37, 38, 39, 40, 41] rfl rfl)) (show ww x (W_L_law (xg x) a0 a1 a2 a3 a4 a5 a6 a7 a8 a9 a10 a11 a12 a13 a14 a15 a16 a17 a18 a19 a20 a21 a22 a23 a24 a25 a26 a27 a28 a29 a30 a31 a32 a33 a34 a35 a36 a37 a38 a39 ab v0 v1 v2 v3 v4 v5 v6 v7 v8 v9 v10 v11 v12 v13 v14 v15 v16 v17 v18 w781 v20 v21 v22 v23 v24 v25 v26 v27 v28 v29 v30 v31 v32 v33 v34 v35 v36 v37 v38 v39 v40 v41 v42 v43 w777 v46 v47 ++ ZP (xg x) a39 v45) [(5, .int r776), (0, .ref ab), (1, .ref a0), (2, .ref a27), (3, .ref a38), (4, .int z4)] (k0 + 1) (n0 + 6) 2349 [.long r780] from ?_)
    refine xw_lstore hf (pc := 2349) dL_law_2349 [(6, .long r780), (5, .int r776), (0, .ref ab), (1, .ref a0), (2, .ref a27), (3, .ref a38), (4, .int z4)] hn (by decide) rfl ?_
    refine xw_aload_n hf (pc := 2351) dL_law_2351 rfl 4 rfl ?_
    refine xw_callV hf (pc := 2352) (nA := 0) (Xr := [(a0, .inr (8, [.ref a1, .ref a8, .ref a13, .ref a18, .ref a25])), (a1, .inr (2, [.ref a2, .ref a4, .ref a6])), (a2, .inr (7, [.ref a3, .int v0])), (a3, .inl (gJ (xg x), 60, .inr (.inl v1))), (a4, .inr (7, [.ref a5, .int v2])), (a5, .inl (gJ (xg x), 60, .inr (.inl v3))), (a6, .inr (3, [.ref a7])), (a7, .inl (gI (xg x), 32, .inl v4)), (a8, .inr (6, [.ref a9, .ref a11, .ref a12])), (a9, .inr (3, [.ref a10])), (a10, .inl (gI (xg x), 32, .inl v5)), (a11, .inl (gI (xg x), 32, .inl v6)), (a12, .inl (gI (xg x), 32, .inl v7)), (a13, .inr (1, [.ref a39, .ref a14, .ref a16, .int v8])), (a14, .inr (3, [.ref a15])), (a15, .inl (gI (xg x), 32, .inl v9)), (a16, .inr (3, [.ref a17])), (a17, .inl (gI (xg x), 32, .inl v10)), (a18, .inr (4, [.ref a19, .ref a21, .ref a23, .int v11, .int v12])), (a19, .inr (3, [.ref a20])), (a20, .inl (gI (xg x), 32, .inl v13)), (a21, .inr (7, [.ref a22, .int v14])), (a22, .inl (gJ (xg x), 60, .inr (.inl v15))), (a23, .inr (7, [.ref a24, .int v16])), (a24, .inl (gJ (xg x), 60, .inr (.inl v17))), (a25, .inr (3, [.ref a26])), (a26, .inl (gI (xg x), 32, .inl v18)), (a28, .inl (gJ (xg x), 60, .inr (.inl v25))), (a29, .inl (gI (xg x), 27, .inl v26)), (a30, .inl (gI (xg x), 27, .inl v27)), (a31, .inl (gI (xg x), 27, .inl v28)), (a32, .inl (gI (xg x), 27, .inl v29)), (v30, .inl (gJ (xg x), v31, .inr (.inl v32))), (v33, .inl (gI (xg x), v34, .inl v35)), (v36, .inl (gZ (xg x), v37, .inl v38)), (a33, .inl (gI (xg x), 12, .inl v39)), (a34, .inl (gI (xg x), 27, .inl v40)), (a35, .inl (gI (xg x), 27, .inl v41)), (a36, .inl (gI (xg x), 60, .inl v42)), (a37, .inl (gI (xg x), 3, .inl v43)), (a38, .inl (gJ (xg x), 1, .inr (.inl w777)))] ++ ZP (xg x) a39 v45) (rest := []) (T := TX9) (c_X9_thrown (xl x) (xg x) a27 a28 a29 a30 a31 a32 v30 v33 v36 a33 a34 a35 a36 a37 w781 v20 v21 v22 v23 v24 h) gL_law_X9_thrown (by rfl) rfl rfl (by decide +kernel) ⟨⟨(Nat.le_of_ble_eq_true rfl), (Nat.le_of_ble_eq_true rfl)⟩, (Nat.le_trans (Nat.le_add_right _ _) hk.1), (Nat.le_trans (Nat.le_add_right _ _) hk.2)⟩ (Nat.le_of_ble_eq_true rfl) rfl rfl (sb_zr (sb_of [27, 0, 1, 2, 3, 4, 5, 6, 7, 8, 9, 10, 11, 12, 13, 14, 15, 16, 17, 18, 19, 20, 21, 22, 23, 24, 25, 26, 28, 29, 30, 31, 32, 33, 34, 35, 36, 37, 38, 39, 40, 41] rfl rfl)) rfl dL_law_2352 (fun v X1 hp => ?_)
    obtain ⟨r782, rfl, rfl, h⟩ := hp
    refine xw_X (sb_rz (sb_of [1, 2, 3, 4, 5, 6, 7, 8, 9, 10, 11, 12, 13, 14, 15, 16, 17, 18, 19, 20, 21, 22, 23, 24, 25, 26, 27, 0, 28, 29, 30, 31, 32, 33, 34, 35, 36, 37, 38, 39, 40, 41] rfl rfl)) (show ww x (W_L_law (xg x) a0 a1 a2 a3 a4 a5 a6 a7 a8 a9 a10 a11 a12 a13 a14 a15 a16 a17 a18 a19 a20 a21 a22 a23 a24 a25 a26 a27 a28 a29 a30 a31 a32 a33 a34 a35 a36 a37 a38 a39 ab v0 v1 v2 v3 v4 v5 v6 v7 v8 v9 v10 v11 v12 v13 v14 v15 v16 v17 v18 w781 v20 v21 v22 v23 v24 v25 v26 v27 v28 v29 v30 v31 v32 v33 v34 v35 v36 v37 v38 v39 v40 v41 v42 v43 w777 v46 v47 ++ ZP (xg x) a39 v45) [(6, .long r780), (5, .int r776), (0, .ref ab), (1, .ref a0), (2, .ref a27), (3, .ref a38), (4, .int z4)] (k0 + 1) (n0 + 6) 2355 [.int r782] from ?_)
    refine xw_iload hf (pc := 2355) dL_law_2355 1 rfl ?_
    refine xw_icmp_eq hf (pc := 2357) dL_law_2357 (tgt := 2362) rfl ⟨fun c => ?_, fun c => ?_⟩
    · have h := h.1 c
      refine xw_iload hf (pc := 2362) dL_law_2362 1 rfl ?_
      refine xw_if_ne hf (pc := 2364) dL_law_2364 (c := r776 = 0) Iff.rfl (tgt := 2378) rfl ⟨fun c => ?_, fun c => ?_⟩
      · have h := h.1 c
        refine xw_aload_n hf (pc := 2367) dL_law_2367 rfl 5 rfl ?_
        refine xw_iconst hf (pc := 2368) dL_law_2368 (v := 0) (by decide) ?_
        refine xw_lald hf (pc := 2369) dL_law_2369 41 rfl h.1 ?_
        have h := h.2
        refine xw_lload hf (pc := 2370) dL_law_2370 0 rfl ?_
        refine xw_lcmp hf (pc := 2372) dL_law_2372 ?_
        refine xw_if_eq hf (pc := 2373) dL_law_2373 (c := (w777 (0 : Int32).toNatClampNeg) = r780) (lc_eq _ _) (tgt := 2378) rfl ⟨fun c => ?_, fun c => ?_⟩
        · have h := h.1 c
          refine xw_goto hf (pc := 2378) dL_law_2378 (tgt := 2681) rfl ?_
          refine xw_L [2, 3, 4, 5, 6] rfl ?_
          exact hK2681 _ _ _ _ hk _ _ h
        · have h := h.2 c
          refine xw_iconst hf (pc := 2376) dL_law_2376 (v := 0) (by decide) ?_
          exact h.elim
      · have h := h.2 c
        refine xw_goto hf (pc := 2378) dL_law_2378 (tgt := 2681) rfl ?_
        refine xw_L [2, 3, 4, 5, 6] rfl ?_
        exact hK2681 _ _ _ _ hk _ _ h
    · have h := h.2 c
      refine xw_iconst hf (pc := 2360) dL_law_2360 (v := 0) (by decide) ?_
      exact h.elim
set_option maxHeartbeats 4000000 in
set_option maxRecDepth 100000 in
theorem w_L_law_L2381 {x : Cx} {mc ms : Nat} (hf : fx x (rm_L_law) RL cL_law wsL_law) (hn : xn x = 8) {k0 n0 rc rs : Nat} (hk : k0 + rc ≤ (rm_L_law).cells ∧ n0 + rs ≤ (rm_L_law).slots) (a0 a1 a2 a3 a4 a5 a6 a7 a8 a9 a10 a11 a12 a13 a14 a15 a16 a17 a18 a19 a20 a21 a22 a23 a24 a25 a26 a27 a28 a29 a30 a31 a32 a33 a34 a35 a36 a37 a38 a39 ab : Nat) (z4 : Int32) (v8 : Int32) (v20 : Int32) (v21 : Int32) (v22 : Int32) (v23 : Int32) (v24 : Int32) (v33 : Nat) (v34 : Nat) (v35 : Nat → Int32) (v45 : ZL) (v46 : Nat) (v47 : Nat → Int32) (v0 : Int32) (v1 : Nat → Int64) (v2 : Int32) (v3 : Nat → Int64) (v4 : Nat → Int32) (v5 : Nat → Int32) (v6 : Nat → Int32) (v7 : Nat → Int32) (v9 : Nat → Int32) (v10 : Nat → Int32) (v11 : Int32) (v12 : Int32) (v13 : Nat → Int32) (v14 : Int32) (v15 : Nat → Int64) (v16 : Int32) (v17 : Nat → Int64) (v18 : Nat → Int32) (v25 : Nat → Int64) (v26 : Nat → Int32) (v27 : Nat → Int32) (v28 : Nat → Int32) (v29 : Nat → Int32) (v30 : Nat) (v31 : Nat) (v32 : Nat → Int64) (v36 : Nat) (v37 : Nat) (v38 : Nat → Int32) (v39 : Nat → Int32) (v40 : Nat → Int32) (v41 : Nat → Int32) (v42 : Nat → Int32) (v43 : Nat → Int32) {K2681 : Nat → Nat → Int32 → (Nat → Int64) → Prop} (hst : (xl x).stackTraces = false) (hX : sX x ab v46 v47)
    (n : Nat) (v19 : Int32) (v44 : Nat → Int64) (h : P_L_law_L2381 z4 v8 v20 v21 v22 v23 v24 v33 v34 v35 v45 v46 v47 K2681 n rc rs v19 v44)
    (hK2681 : ∀ (k0 n0 rc rs : Nat), k0 + rc ≤ (rm_L_law).cells ∧ n0 + rs ≤ (rm_L_law).slots → ∀ (uv19 : Int32), ∀ (uv44 : Nat → Int64), K2681 rc rs uv19 uv44 → ww x (W_L_law (xg x) a0 a1 a2 a3 a4 a5 a6 a7 a8 a9 a10 a11 a12 a13 a14 a15 a16 a17 a18 a19 a20 a21 a22 a23 a24 a25 a26 a27 a28 a29 a30 a31 a32 a33 a34 a35 a36 a37 a38 a39 ab v0 v1 v2 v3 v4 v5 v6 v7 v8 v9 v10 v11 v12 v13 v14 v15 v16 v17 v18 uv19 v20 v21 v22 v23 v24 v25 v26 v27 v28 v29 v30 v31 v32 v33 v34 v35 v36 v37 v38 v39 v40 v41 v42 v43 uv44 v46 v47 ++ ZP (xg x) a39 v45) [(0, .ref ab), (1, .ref a0), (2, .ref a27), (3, .ref a38), (4, .int z4)] k0 n0 2681 []) :
    ww x (W_L_law (xg x) a0 a1 a2 a3 a4 a5 a6 a7 a8 a9 a10 a11 a12 a13 a14 a15 a16 a17 a18 a19 a20 a21 a22 a23 a24 a25 a26 a27 a28 a29 a30 a31 a32 a33 a34 a35 a36 a37 a38 a39 ab v0 v1 v2 v3 v4 v5 v6 v7 v8 v9 v10 v11 v12 v13 v14 v15 v16 v17 v18 v19 v20 v21 v22 v23 v24 v25 v26 v27 v28 v29 v30 v31 v32 v33 v34 v35 v36 v37 v38 v39 v40 v41 v42 v43 v44 v46 v47 ++ ZP (xg x) a39 v45) [(0, .ref ab), (1, .ref a0), (2, .ref a27), (3, .ref a38), (4, .int z4)] k0 n0 2381 [] := by
  induction n generalizing k0 n0 rc rs v19 v44 with
  | zero => exact h.elim
  | succ n ih =>
    unfold P_L_law_L2381 at h
    refine xw_aload_n hf (pc := 2381) dL_law_2381 rfl 1 rfl ?_
    refine xw_aload_n hf (pc := 2382) dL_law_2382 rfl 0 rfl ?_
    refine xw_iload hf (pc := 2383) dL_law_2383 4 rfl ?_
    refine xw_iconst hf (pc := 2385) dL_law_2385 (v := 1) (by decide) ?_
    refine xw_iadd hf (pc := 2386) dL_law_2386 ?_
    refine xw_sald hf hX dL_law_2387 h.1 ?_
    have h := h.2
    refine xw_aload_n hf (pc := 2388) dL_law_2388 rfl 3 rfl ?_
    obtain ⟨mc791, ms792, ⟨hb1, hb2⟩, h⟩ := h
    refine xw_callSW hf (pc := 2389) (nA := 3) (Xr := [(a1, .inr (2, [.ref a2, .ref a4, .ref a6])), (a2, .inr (7, [.ref a3, .int v0])), (a3, .inl (gJ (xg x), 60, .inr (.inl v1))), (a4, .inr (7, [.ref a5, .int v2])), (a5, .inl (gJ (xg x), 60, .inr (.inl v3))), (a6, .inr (3, [.ref a7])), (a7, .inl (gI (xg x), 32, .inl v4)), (a8, .inr (6, [.ref a9, .ref a11, .ref a12])), (a9, .inr (3, [.ref a10])), (a10, .inl (gI (xg x), 32, .inl v5)), (a11, .inl (gI (xg x), 32, .inl v6)), (a12, .inl (gI (xg x), 32, .inl v7)), (a14, .inr (3, [.ref a15])), (a15, .inl (gI (xg x), 32, .inl v9)), (a16, .inr (3, [.ref a17])), (a17, .inl (gI (xg x), 32, .inl v10)), (a18, .inr (4, [.ref a19, .ref a21, .ref a23, .int v11, .int v12])), (a19, .inr (3, [.ref a20])), (a20, .inl (gI (xg x), 32, .inl v13)), (a21, .inr (7, [.ref a22, .int v14])), (a22, .inl (gJ (xg x), 60, .inr (.inl v15))), (a23, .inr (7, [.ref a24, .int v16])), (a24, .inl (gJ (xg x), 60, .inr (.inl v17))), (a25, .inr (3, [.ref a26])), (a26, .inl (gI (xg x), 32, .inl v18)), (a27, .inr (9, [.int v19, .ref a28, .int v20, .ref a29, .ref a30, .ref a31, .ref a32, .ref v30, .ref v33, .ref v36, .int v21, .int v22, .ref a33, .int v23, .ref a34, .ref a35, .ref a36, .ref a37, .int v24])), (a28, .inl (gJ (xg x), 60, .inr (.inl v25))), (a29, .inl (gI (xg x), 27, .inl v26)), (a30, .inl (gI (xg x), 27, .inl v27)), (a31, .inl (gI (xg x), 27, .inl v28)), (a32, .inl (gI (xg x), 27, .inl v29)), (v30, .inl (gJ (xg x), v31, .inr (.inl v32))), (v33, .inl (gI (xg x), v34, .inl v35)), (v36, .inl (gZ (xg x), v37, .inl v38)), (a33, .inl (gI (xg x), 12, .inl v39)), (a34, .inl (gI (xg x), 27, .inl v40)), (a35, .inl (gI (xg x), 27, .inl v41)), (a36, .inl (gI (xg x), 60, .inl v42)), (a37, .inl (gI (xg x), 3, .inl v43))]) (rest := []) (c_L_receiptPrice (xl x) (xg x) hst a0 a13 a38 a39 a1 a8 a18 a25 a14 a16 v8 v44 v45 (v47 (z4 + 1).toNatClampNeg) h) gL_law_L_receiptPrice (by rfl) rfl (by decide +kernel) ⟨⟨(Nat.le_of_ble_eq_true rfl), (Nat.le_of_ble_eq_true rfl)⟩, (Nat.le_trans (show k0 + 1 ≤ k0 + rc by omega) hk.1), (Nat.le_trans (show n0 + 6 ≤ n0 + rs by omega) hk.2)⟩ (Nat.le_of_ble_eq_true rfl) (sb_zc (sb_of [0, 13, 41, 1, 2, 3, 4, 5, 6, 7, 8, 9, 10, 11, 12, 14, 15, 16, 17, 18, 19, 20, 21, 22, 23, 24, 25, 26, 27, 28, 29, 30, 31, 32, 33, 34, 35, 36, 37, 38, 39, 40] rfl rfl)) rfl dL_law_2389 (fun v X1 hp => ?_)
    obtain ⟨r789, w790, rfl, rfl, h⟩ := hp
    have hk : k0 + 1 + mc791 ≤ (rm_L_law).cells ∧ n0 + 6 + ms792 ≤ (rm_L_law).slots := ⟨Nat.le_trans (show k0 + 1 + mc791 ≤ k0 + rc by omega) hk.1, Nat.le_trans (show n0 + 6 + ms792 ≤ n0 + rs by omega) hk.2⟩
    refine xw_X (sb_cz (sb_of [0, 3, 4, 5, 6, 7, 8, 9, 10, 11, 12, 13, 14, 1, 15, 16, 17, 18, 19, 20, 21, 22, 23, 24, 25, 26, 27, 28, 29, 30, 31, 32, 33, 34, 35, 36, 37, 38, 39, 40, 41, 2] rfl rfl)) (show ww x (W_L_law (xg x) a0 a1 a2 a3 a4 a5 a6 a7 a8 a9 a10 a11 a12 a13 a14 a15 a16 a17 a18 a19 a20 a21 a22 a23 a24 a25 a26 a27 a28 a29 a30 a31 a32 a33 a34 a35 a36 a37 a38 a39 ab v0 v1 v2 v3 v4 v5 v6 v7 v8 v9 v10 v11 v12 v13 v14 v15 v16 v17 v18 v19 v20 v21 v22 v23 v24 v25 v26 v27 v28 v29 v30 v31 v32 v33 v34 v35 v36 v37 v38 v39 v40 v41 v42 v43 w790 v46 v47 ++ ZP (xg x) a39 v45) [(0, .ref ab), (1, .ref a0), (2, .ref a27), (3, .ref a38), (4, .int z4)] (k0 + 1) (n0 + 6) 2392 [.int r789] from ?_)
    refine xw_istore hf (pc := 2392) dL_law_2392 [(5, .int r789), (0, .ref ab), (1, .ref a0), (2, .ref a27), (3, .ref a38), (4, .int z4)] hn (by decide) rfl ?_
    refine xw_aload_n hf (pc := 2394) dL_law_2394 rfl 3 rfl ?_
    refine xw_aload_n hf (pc := 2395) dL_law_2395 rfl 1 rfl ?_
    refine xw_iload hf (pc := 2396) dL_law_2396 5 rfl ?_
    refine xw_iconst hf (pc := 2398) dL_law_2398 (v := 1) (by decide) ?_
    refine xw_iadd hf (pc := 2399) dL_law_2399 ?_
    refine xw_sald hf hX dL_law_2400 h.1 ?_
    have h := h.2
    refine xw_callV hf (pc := 2401) (nA := 1) (Xr := [(a0, .inr (8, [.ref a1, .ref a8, .ref a13, .ref a18, .ref a25])), (a1, .inr (2, [.ref a2, .ref a4, .ref a6])), (a2, .inr (7, [.ref a3, .int v0])), (a3, .inl (gJ (xg x), 60, .inr (.inl v1))), (a4, .inr (7, [.ref a5, .int v2])), (a5, .inl (gJ (xg x), 60, .inr (.inl v3))), (a6, .inr (3, [.ref a7])), (a7, .inl (gI (xg x), 32, .inl v4)), (a8, .inr (6, [.ref a9, .ref a11, .ref a12])), (a9, .inr (3, [.ref a10])), (a10, .inl (gI (xg x), 32, .inl v5)), (a11, .inl (gI (xg x), 32, .inl v6)), (a12, .inl (gI (xg x), 32, .inl v7)), (a13, .inr (1, [.ref a39, .ref a14, .ref a16, .int v8])), (a14, .inr (3, [.ref a15])), (a15, .inl (gI (xg x), 32, .inl v9)), (a16, .inr (3, [.ref a17])), (a17, .inl (gI (xg x), 32, .inl v10)), (a18, .inr (4, [.ref a19, .ref a21, .ref a23, .int v11, .int v12])), (a19, .inr (3, [.ref a20])), (a20, .inl (gI (xg x), 32, .inl v13)), (a21, .inr (7, [.ref a22, .int v14])), (a22, .inl (gJ (xg x), 60, .inr (.inl v15))), (a23, .inr (7, [.ref a24, .int v16])), (a24, .inl (gJ (xg x), 60, .inr (.inl v17))), (a25, .inr (3, [.ref a26])), (a26, .inl (gI (xg x), 32, .inl v18)), (a28, .inl (gJ (xg x), 60, .inr (.inl v25))), (a29, .inl (gI (xg x), 27, .inl v26)), (a30, .inl (gI (xg x), 27, .inl v27)), (a31, .inl (gI (xg x), 27, .inl v28)), (a32, .inl (gI (xg x), 27, .inl v29)), (v30, .inl (gJ (xg x), v31, .inr (.inl v32))), (v36, .inl (gZ (xg x), v37, .inl v38)), (a33, .inl (gI (xg x), 12, .inl v39)), (a34, .inl (gI (xg x), 27, .inl v40)), (a35, .inl (gI (xg x), 27, .inl v41)), (a36, .inl (gI (xg x), 60, .inl v42)), (a37, .inl (gI (xg x), 3, .inl v43)), (a38, .inl (gJ (xg x), 1, .inr (.inl w790)))] ++ ZP (xg x) a39 v45) (rest := []) (T := TX9) (c_X9_receiptPrice (xl x) (xg x) a27 a28 a29 a30 a31 a32 v30 v36 a33 a34 a35 a36 a37 v19 v20 v21 v22 v23 v24 v33 v34 v35 (v47 (z4 + 1).toNatClampNeg) h) gL_law_X9_receiptPrice (by rfl) rfl rfl (by decide +kernel) ⟨⟨(Nat.le_of_ble_eq_true rfl), (Nat.le_of_ble_eq_true rfl)⟩, (Nat.le_trans (Nat.le_add_right _ _) hk.1), (Nat.le_trans (Nat.le_add_right _ _) hk.2)⟩ (Nat.le_of_ble_eq_true rfl) rfl rfl (sb_zr (sb_of [27, 34, 0, 1, 2, 3, 4, 5, 6, 7, 8, 9, 10, 11, 12, 13, 14, 15, 16, 17, 18, 19, 20, 21, 22, 23, 24, 25, 26, 28, 29, 30, 31, 32, 33, 35, 36, 37, 38, 39, 40, 41] rfl rfl)) rfl dL_law_2401 (fun v X1 hp => ?_)
    obtain ⟨r793, w794, rfl, rfl, h⟩ := hp
    refine xw_X (sb_rz (sb_of [2, 3, 4, 5, 6, 7, 8, 9, 10, 11, 12, 13, 14, 15, 16, 17, 18, 19, 20, 21, 22, 23, 24, 25, 26, 27, 28, 0, 29, 30, 31, 32, 33, 34, 1, 35, 36, 37, 38, 39, 40, 41] rfl rfl)) (show ww x (W_L_law (xg x) a0 a1 a2 a3 a4 a5 a6 a7 a8 a9 a10 a11 a12 a13 a14 a15 a16 a17 a18 a19 a20 a21 a22 a23 a24 a25 a26 a27 a28 a29 a30 a31 a32 a33 a34 a35 a36 a37 a38 a39 ab v0 v1 v2 v3 v4 v5 v6 v7 v8 v9 v10 v11 v12 v13 v14 v15 v16 v17 v18 w794 v20 v21 v22 v23 v24 v25 v26 v27 v28 v29 v30 v31 v32 v33 v34 v35 v36 v37 v38 v39 v40 v41 v42 v43 w790 v46 v47 ++ ZP (xg x) a39 v45) [(5, .int r789), (0, .ref ab), (1, .ref a0), (2, .ref a27), (3, .ref a38), (4, .int z4)] (k0 + 1) (n0 + 6) 2404 [.int r793] from ?_)
    refine xw_istore hf (pc := 2404) dL_law_2404 [(6, .int r793), (5, .int r789), (0, .ref ab), (1, .ref a0), (2, .ref a27), (3, .ref a38), (4, .int z4)] hn (by decide) rfl ?_
    refine xw_aload_n hf (pc := 2406) dL_law_2406 rfl 4 rfl ?_
    refine xw_callV hf (pc := 2407) (nA := 0) (Xr := [(a0, .inr (8, [.ref a1, .ref a8, .ref a13, .ref a18, .ref a25])), (a1, .inr (2, [.ref a2, .ref a4, .ref a6])), (a2, .inr (7, [.ref a3, .int v0])), (a3, .inl (gJ (xg x), 60, .inr (.inl v1))), (a4, .inr (7, [.ref a5, .int v2])), (a5, .inl (gJ (xg x), 60, .inr (.inl v3))), (a6, .inr (3, [.ref a7])), (a7, .inl (gI (xg x), 32, .inl v4)), (a8, .inr (6, [.ref a9, .ref a11, .ref a12])), (a9, .inr (3, [.ref a10])), (a10, .inl (gI (xg x), 32, .inl v5)), (a11, .inl (gI (xg x), 32, .inl v6)), (a12, .inl (gI (xg x), 32, .inl v7)), (a13, .inr (1, [.ref a39, .ref a14, .ref a16, .int v8])), (a14, .inr (3, [.ref a15])), (a15, .inl (gI (xg x), 32, .inl v9)), (a16, .inr (3, [.ref a17])), (a17, .inl (gI (xg x), 32, .inl v10)), (a18, .inr (4, [.ref a19, .ref a21, .ref a23, .int v11, .int v12])), (a19, .inr (3, [.ref a20])), (a20, .inl (gI (xg x), 32, .inl v13)), (a21, .inr (7, [.ref a22, .int v14])), (a22, .inl (gJ (xg x), 60, .inr (.inl v15))), (a23, .inr (7, [.ref a24, .int v16])), (a24, .inl (gJ (xg x), 60, .inr (.inl v17))), (a25, .inr (3, [.ref a26])), (a26, .inl (gI (xg x), 32, .inl v18)), (a28, .inl (gJ (xg x), 60, .inr (.inl v25))), (a29, .inl (gI (xg x), 27, .inl v26)), (a30, .inl (gI (xg x), 27, .inl v27)), (a31, .inl (gI (xg x), 27, .inl v28)), (a32, .inl (gI (xg x), 27, .inl v29)), (v30, .inl (gJ (xg x), v31, .inr (.inl v32))), (v33, .inl (gI (xg x), v34, .inl v35)), (v36, .inl (gZ (xg x), v37, .inl v38)), (a33, .inl (gI (xg x), 12, .inl v39)), (a34, .inl (gI (xg x), 27, .inl v40)), (a35, .inl (gI (xg x), 27, .inl v41)), (a36, .inl (gI (xg x), 60, .inl v42)), (a37, .inl (gI (xg x), 3, .inl v43)), (a38, .inl (gJ (xg x), 1, .inr (.inl w790)))] ++ ZP (xg x) a39 v45) (rest := []) (T := TX9) (c_X9_thrown (xl x) (xg x) a27 a28 a29 a30 a31 a32 v30 v33 v36 a33 a34 a35 a36 a37 w794 v20 v21 v22 v23 v24 h) gL_law_X9_thrown (by rfl) rfl rfl (by decide +kernel) ⟨⟨(Nat.le_of_ble_eq_true rfl), (Nat.le_of_ble_eq_true rfl)⟩, (Nat.le_trans (Nat.le_add_right _ _) hk.1), (Nat.le_trans (Nat.le_add_right _ _) hk.2)⟩ (Nat.le_of_ble_eq_true rfl) rfl rfl (sb_zr (sb_of [27, 0, 1, 2, 3, 4, 5, 6, 7, 8, 9, 10, 11, 12, 13, 14, 15, 16, 17, 18, 19, 20, 21, 22, 23, 24, 25, 26, 28, 29, 30, 31, 32, 33, 34, 35, 36, 37, 38, 39, 40, 41] rfl rfl)) rfl dL_law_2407 (fun v X1 hp => ?_)
    obtain ⟨r795, rfl, rfl, h⟩ := hp
    refine xw_X (sb_rz (sb_of [1, 2, 3, 4, 5, 6, 7, 8, 9, 10, 11, 12, 13, 14, 15, 16, 17, 18, 19, 20, 21, 22, 23, 24, 25, 26, 27, 0, 28, 29, 30, 31, 32, 33, 34, 35, 36, 37, 38, 39, 40, 41] rfl rfl)) (show ww x (W_L_law (xg x) a0 a1 a2 a3 a4 a5 a6 a7 a8 a9 a10 a11 a12 a13 a14 a15 a16 a17 a18 a19 a20 a21 a22 a23 a24 a25 a26 a27 a28 a29 a30 a31 a32 a33 a34 a35 a36 a37 a38 a39 ab v0 v1 v2 v3 v4 v5 v6 v7 v8 v9 v10 v11 v12 v13 v14 v15 v16 v17 v18 w794 v20 v21 v22 v23 v24 v25 v26 v27 v28 v29 v30 v31 v32 v33 v34 v35 v36 v37 v38 v39 v40 v41 v42 v43 w790 v46 v47 ++ ZP (xg x) a39 v45) [(6, .int r793), (5, .int r789), (0, .ref ab), (1, .ref a0), (2, .ref a27), (3, .ref a38), (4, .int z4)] (k0 + 1) (n0 + 6) 2410 [.int r795] from ?_)
    refine xw_iload hf (pc := 2410) dL_law_2410 1 rfl ?_
    refine xw_icmp_eq hf (pc := 2412) dL_law_2412 (tgt := 2417) rfl ⟨fun c => ?_, fun c => ?_⟩
    · have h := h.1 c
      refine xw_iload hf (pc := 2417) dL_law_2417 1 rfl ?_
      refine xw_if_ne hf (pc := 2419) dL_law_2419 (c := r789 = 0) Iff.rfl (tgt := 2434) rfl ⟨fun c => ?_, fun c => ?_⟩
      · have h := h.1 c
        refine xw_aload_n hf (pc := 2422) dL_law_2422 rfl 5 rfl ?_
        refine xw_iconst hf (pc := 2423) dL_law_2423 (v := 0) (by decide) ?_
        refine xw_lald hf (pc := 2424) dL_law_2424 41 rfl h.1 ?_
        have h := h.2
        refine xw_iload hf (pc := 2425) dL_law_2425 0 rfl ?_
        refine xw_i2l hf (pc := 2427) dL_law_2427 ?_
        refine xw_lcmp hf (pc := 2428) dL_law_2428 ?_
        refine xw_if_eq hf (pc := 2429) dL_law_2429 (c := (w790 (0 : Int32).toNatClampNeg) = r793.toInt64) (lc_eq _ _) (tgt := 2434) rfl ⟨fun c => ?_, fun c => ?_⟩
        · have h := h.1 c
          refine xw_goto hf (pc := 2434) dL_law_2434 (tgt := 2681) rfl ?_
          refine xw_L [2, 3, 4, 5, 6] rfl ?_
          exact hK2681 _ _ _ _ hk _ _ h
        · have h := h.2 c
          refine xw_iconst hf (pc := 2432) dL_law_2432 (v := 0) (by decide) ?_
          exact h.elim
      · have h := h.2 c
        refine xw_goto hf (pc := 2434) dL_law_2434 (tgt := 2681) rfl ?_
        refine xw_L [2, 3, 4, 5, 6] rfl ?_
        exact hK2681 _ _ _ _ hk _ _ h
    · have h := h.2 c
      refine xw_iconst hf (pc := 2415) dL_law_2415 (v := 0) (by decide) ?_
      exact h.elim
set_option maxHeartbeats 4000000 in
set_option maxRecDepth 100000 in
theorem w_L_law_L2437 {x : Cx} {mc ms : Nat} (hf : fx x (rm_L_law) RL cL_law wsL_law) (hn : xn x = 8) {k0 n0 rc rs : Nat} (hk : k0 + rc ≤ (rm_L_law).cells ∧ n0 + rs ≤ (rm_L_law).slots) (a0 a1 a2 a3 a4 a5 a6 a7 a8 a9 a10 a11 a12 a13 a14 a15 a16 a17 a18 a19 a20 a21 a22 a23 a24 a25 a26 a27 a28 a29 a30 a31 a32 a33 a34 a35 a36 a37 a38 a39 ab : Nat) (z4 : Int32) (v8 : Int32) (v20 : Int32) (v21 : Int32) (v22 : Int32) (v23 : Int32) (v24 : Int32) (v36 : Nat) (v37 : Nat) (v38 : Nat → Int32) (v45 : ZL) (v46 : Nat) (v47 : Nat → Int32) (v0 : Int32) (v1 : Nat → Int64) (v2 : Int32) (v3 : Nat → Int64) (v4 : Nat → Int32) (v5 : Nat → Int32) (v6 : Nat → Int32) (v7 : Nat → Int32) (v9 : Nat → Int32) (v10 : Nat → Int32) (v11 : Int32) (v12 : Int32) (v13 : Nat → Int32) (v14 : Int32) (v15 : Nat → Int64) (v16 : Int32) (v17 : Nat → Int64) (v18 : Nat → Int32) (v25 : Nat → Int64) (v26 : Nat → Int32) (v27 : Nat → Int32) (v28 : Nat → Int32) (v29 : Nat → Int32) (v30 : Nat) (v31 : Nat) (v32 : Nat → Int64) (v33 : Nat) (v34 : Nat) (v35 : Nat → Int32) (v39 : Nat → Int32) (v40 : Nat → Int32) (v41 : Nat → Int32) (v42 : Nat → Int32) (v43 : Nat → Int32) {K2681 : Nat → Nat → Int32 → (Nat → Int64) → Prop} (hst : (xl x).stackTraces = false) (hX : sX x ab v46 v47)
    (n : Nat) (v19 : Int32) (v44 : Nat → Int64) (h : P_L_law_L2437 z4 v8 v20 v21 v22 v23 v24 v36 v37 v38 v45 v46 v47 K2681 n rc rs v19 v44)
    (hK2681 : ∀ (k0 n0 rc rs : Nat), k0 + rc ≤ (rm_L_law).cells ∧ n0 + rs ≤ (rm_L_law).slots → ∀ (uv19 : Int32), ∀ (uv44 : Nat → Int64), K2681 rc rs uv19 uv44 → ww x (W_L_law (xg x) a0 a1 a2 a3 a4 a5 a6 a7 a8 a9 a10 a11 a12 a13 a14 a15 a16 a17 a18 a19 a20 a21 a22 a23 a24 a25 a26 a27 a28 a29 a30 a31 a32 a33 a34 a35 a36 a37 a38 a39 ab v0 v1 v2 v3 v4 v5 v6 v7 v8 v9 v10 v11 v12 v13 v14 v15 v16 v17 v18 uv19 v20 v21 v22 v23 v24 v25 v26 v27 v28 v29 v30 v31 v32 v33 v34 v35 v36 v37 v38 v39 v40 v41 v42 v43 uv44 v46 v47 ++ ZP (xg x) a39 v45) [(0, .ref ab), (1, .ref a0), (2, .ref a27), (3, .ref a38), (4, .int z4)] k0 n0 2681 []) :
    ww x (W_L_law (xg x) a0 a1 a2 a3 a4 a5 a6 a7 a8 a9 a10 a11 a12 a13 a14 a15 a16 a17 a18 a19 a20 a21 a22 a23 a24 a25 a26 a27 a28 a29 a30 a31 a32 a33 a34 a35 a36 a37 a38 a39 ab v0 v1 v2 v3 v4 v5 v6 v7 v8 v9 v10 v11 v12 v13 v14 v15 v16 v17 v18 v19 v20 v21 v22 v23 v24 v25 v26 v27 v28 v29 v30 v31 v32 v33 v34 v35 v36 v37 v38 v39 v40 v41 v42 v43 v44 v46 v47 ++ ZP (xg x) a39 v45) [(0, .ref ab), (1, .ref a0), (2, .ref a27), (3, .ref a38), (4, .int z4)] k0 n0 2437 [] := by
  induction n generalizing k0 n0 rc rs v19 v44 with
  | zero => exact h.elim
  | succ n ih =>
    unfold P_L_law_L2437 at h
    refine xw_aload_n hf (pc := 2437) dL_law_2437 rfl 1 rfl ?_
    refine xw_aload_n hf (pc := 2438) dL_law_2438 rfl 0 rfl ?_
    refine xw_iload hf (pc := 2439) dL_law_2439 4 rfl ?_
    refine xw_iconst hf (pc := 2441) dL_law_2441 (v := 1) (by decide) ?_
    refine xw_iadd hf (pc := 2442) dL_law_2442 ?_
    refine xw_sald hf hX dL_law_2443 h.1 ?_
    have h := h.2
    refine xw_aload_n hf (pc := 2444) dL_law_2444 rfl 3 rfl ?_
    obtain ⟨mc804, ms805, ⟨hb1, hb2⟩, h⟩ := h
    refine xw_callSW hf (pc := 2445) (nA := 3) (Xr := [(a1, .inr (2, [.ref a2, .ref a4, .ref a6])), (a2, .inr (7, [.ref a3, .int v0])), (a3, .inl (gJ (xg x), 60, .inr (.inl v1))), (a4, .inr (7, [.ref a5, .int v2])), (a5, .inl (gJ (xg x), 60, .inr (.inl v3))), (a6, .inr (3, [.ref a7])), (a7, .inl (gI (xg x), 32, .inl v4)), (a8, .inr (6, [.ref a9, .ref a11, .ref a12])), (a9, .inr (3, [.ref a10])), (a10, .inl (gI (xg x), 32, .inl v5)), (a11, .inl (gI (xg x), 32, .inl v6)), (a12, .inl (gI (xg x), 32, .inl v7)), (a14, .inr (3, [.ref a15])), (a15, .inl (gI (xg x), 32, .inl v9)), (a16, .inr (3, [.ref a17])), (a17, .inl (gI (xg x), 32, .inl v10)), (a18, .inr (4, [.ref a19, .ref a21, .ref a23, .int v11, .int v12])), (a19, .inr (3, [.ref a20])), (a20, .inl (gI (xg x), 32, .inl v13)), (a21, .inr (7, [.ref a22, .int v14])), (a22, .inl (gJ (xg x), 60, .inr (.inl v15))), (a23, .inr (7, [.ref a24, .int v16])), (a24, .inl (gJ (xg x), 60, .inr (.inl v17))), (a25, .inr (3, [.ref a26])), (a26, .inl (gI (xg x), 32, .inl v18)), (a27, .inr (9, [.int v19, .ref a28, .int v20, .ref a29, .ref a30, .ref a31, .ref a32, .ref v30, .ref v33, .ref v36, .int v21, .int v22, .ref a33, .int v23, .ref a34, .ref a35, .ref a36, .ref a37, .int v24])), (a28, .inl (gJ (xg x), 60, .inr (.inl v25))), (a29, .inl (gI (xg x), 27, .inl v26)), (a30, .inl (gI (xg x), 27, .inl v27)), (a31, .inl (gI (xg x), 27, .inl v28)), (a32, .inl (gI (xg x), 27, .inl v29)), (v30, .inl (gJ (xg x), v31, .inr (.inl v32))), (v33, .inl (gI (xg x), v34, .inl v35)), (v36, .inl (gZ (xg x), v37, .inl v38)), (a33, .inl (gI (xg x), 12, .inl v39)), (a34, .inl (gI (xg x), 27, .inl v40)), (a35, .inl (gI (xg x), 27, .inl v41)), (a36, .inl (gI (xg x), 60, .inl v42)), (a37, .inl (gI (xg x), 3, .inl v43))]) (rest := []) (c_L_isReturned (xl x) (xg x) hst a0 a13 a38 a39 a1 a8 a18 a25 a14 a16 v8 v44 v45 (v47 (z4 + 1).toNatClampNeg) h) gL_law_L_isReturned (by rfl) rfl (by decide +kernel) ⟨⟨(Nat.le_of_ble_eq_true rfl), (Nat.le_of_ble_eq_true rfl)⟩, (Nat.le_trans (show k0 + 1 ≤ k0 + rc by omega) hk.1), (Nat.le_trans (show n0 + 6 ≤ n0 + rs by omega) hk.2)⟩ (Nat.le_of_ble_eq_true rfl) (sb_zc (sb_of [0, 13, 41, 1, 2, 3, 4, 5, 6, 7, 8, 9, 10, 11, 12, 14, 15, 16, 17, 18, 19, 20, 21, 22, 23, 24, 25, 26, 27, 28, 29, 30, 31, 32, 33, 34, 35, 36, 37, 38, 39, 40] rfl rfl)) rfl dL_law_2445 (fun v X1 hp => ?_)
    obtain ⟨r802, w803, rfl, rfl, h⟩ := hp
    have hk : k0 + 1 + mc804 ≤ (rm_L_law).cells ∧ n0 + 6 + ms805 ≤ (rm_L_law).slots := ⟨Nat.le_trans (show k0 + 1 + mc804 ≤ k0 + rc by omega) hk.1, Nat.le_trans (show n0 + 6 + ms805 ≤ n0 + rs by omega) hk.2⟩
    refine xw_X (sb_cz (sb_of [0, 3, 4, 5, 6, 7, 8, 9, 10, 11, 12, 13, 14, 1, 15, 16, 17, 18, 19, 20, 21, 22, 23, 24, 25, 26, 27, 28, 29, 30, 31, 32, 33, 34, 35, 36, 37, 38, 39, 40, 41, 2] rfl rfl)) (show ww x (W_L_law (xg x) a0 a1 a2 a3 a4 a5 a6 a7 a8 a9 a10 a11 a12 a13 a14 a15 a16 a17 a18 a19 a20 a21 a22 a23 a24 a25 a26 a27 a28 a29 a30 a31 a32 a33 a34 a35 a36 a37 a38 a39 ab v0 v1 v2 v3 v4 v5 v6 v7 v8 v9 v10 v11 v12 v13 v14 v15 v16 v17 v18 v19 v20 v21 v22 v23 v24 v25 v26 v27 v28 v29 v30 v31 v32 v33 v34 v35 v36 v37 v38 v39 v40 v41 v42 v43 w803 v46 v47 ++ ZP (xg x) a39 v45) [(0, .ref ab), (1, .ref a0), (2, .ref a27), (3, .ref a38), (4, .int z4)] (k0 + 1) (n0 + 6) 2448 [.int r802] from ?_)
    refine xw_istore hf (pc := 2448) dL_law_2448 [(5, .int r802), (0, .ref ab), (1, .ref a0), (2, .ref a27), (3, .ref a38), (4, .int z4)] hn (by decide) rfl ?_
    refine xw_aload_n hf (pc := 2450) dL_law_2450 rfl 3 rfl ?_
    refine xw_aload_n hf (pc := 2451) dL_law_2451 rfl 1 rfl ?_
    refine xw_iload hf (pc := 2452) dL_law_2452 5 rfl ?_
    refine xw_iconst hf (pc := 2454) dL_law_2454 (v := 1) (by decide) ?_
    refine xw_iadd hf (pc := 2455) dL_law_2455 ?_
    refine xw_sald hf hX dL_law_2456 h.1 ?_
    have h := h.2
    refine xw_callV hf (pc := 2457) (nA := 1) (Xr := [(a0, .inr (8, [.ref a1, .ref a8, .ref a13, .ref a18, .ref a25])), (a1, .inr (2, [.ref a2, .ref a4, .ref a6])), (a2, .inr (7, [.ref a3, .int v0])), (a3, .inl (gJ (xg x), 60, .inr (.inl v1))), (a4, .inr (7, [.ref a5, .int v2])), (a5, .inl (gJ (xg x), 60, .inr (.inl v3))), (a6, .inr (3, [.ref a7])), (a7, .inl (gI (xg x), 32, .inl v4)), (a8, .inr (6, [.ref a9, .ref a11, .ref a12])), (a9, .inr (3, [.ref a10])), (a10, .inl (gI (xg x), 32, .inl v5)), (a11, .inl (gI (xg x), 32, .inl v6)), (a12, .inl (gI (xg x), 32, .inl v7)), (a13, .inr (1, [.ref a39, .ref a14, .ref a16, .int v8])), (a14, .inr (3, [.ref a15])), (a15, .inl (gI (xg x), 32, .inl v9)), (a16, .inr (3, [.ref a17])), (a17, .inl (gI (xg x), 32, .inl v10)), (a18, .inr (4, [.ref a19, .ref a21, .ref a23, .int v11, .int v12])), (a19, .inr (3, [.ref a20])), (a20, .inl (gI (xg x), 32, .inl v13)), (a21, .inr (7, [.ref a22, .int v14])), (a22, .inl (gJ (xg x), 60, .inr (.inl v15))), (a23, .inr (7, [.ref a24, .int v16])), (a24, .inl (gJ (xg x), 60, .inr (.inl v17))), (a25, .inr (3, [.ref a26])), (a26, .inl (gI (xg x), 32, .inl v18)), (a28, .inl (gJ (xg x), 60, .inr (.inl v25))), (a29, .inl (gI (xg x), 27, .inl v26)), (a30, .inl (gI (xg x), 27, .inl v27)), (a31, .inl (gI (xg x), 27, .inl v28)), (a32, .inl (gI (xg x), 27, .inl v29)), (v30, .inl (gJ (xg x), v31, .inr (.inl v32))), (v33, .inl (gI (xg x), v34, .inl v35)), (a33, .inl (gI (xg x), 12, .inl v39)), (a34, .inl (gI (xg x), 27, .inl v40)), (a35, .inl (gI (xg x), 27, .inl v41)), (a36, .inl (gI (xg x), 60, .inl v42)), (a37, .inl (gI (xg x), 3, .inl v43)), (a38, .inl (gJ (xg x), 1, .inr (.inl w803)))] ++ ZP (xg x) a39 v45) (rest := []) (T := TX9) (c_X9_isReturned (xl x) (xg x) a27 a28 a29 a30 a31 a32 v30 v33 a33 a34 a35 a36 a37 v19 v20 v21 v22 v23 v24 v36 v37 v38 (v47 (z4 + 1).toNatClampNeg) h) gL_law_X9_isReturned (by rfl) rfl rfl (by decide +kernel) ⟨⟨(Nat.le_of_ble_eq_true rfl), (Nat.le_of_ble_eq_true rfl)⟩, (Nat.le_trans (Nat.le_add_right _ _) hk.1), (Nat.le_trans (Nat.le_add_right _ _) hk.2)⟩ (Nat.le_of_ble_eq_true rfl) rfl rfl (sb_zr (sb_of [27, 35, 0, 1, 2, 3, 4, 5, 6, 7, 8, 9, 10, 11, 12, 13, 14, 15, 16, 17, 18, 19, 20, 21, 22, 23, 24, 25, 26, 28, 29, 30, 31, 32, 33, 34, 36, 37, 38, 39, 40, 41] rfl rfl)) rfl dL_law_2457 (fun v X1 hp => ?_)
    obtain ⟨r806, w807, rfl, rfl, h⟩ := hp
    refine xw_X (sb_rz (sb_of [2, 3, 4, 5, 6, 7, 8, 9, 10, 11, 12, 13, 14, 15, 16, 17, 18, 19, 20, 21, 22, 23, 24, 25, 26, 27, 28, 0, 29, 30, 31, 32, 33, 34, 35, 1, 36, 37, 38, 39, 40, 41] rfl rfl)) (show ww x (W_L_law (xg x) a0 a1 a2 a3 a4 a5 a6 a7 a8 a9 a10 a11 a12 a13 a14 a15 a16 a17 a18 a19 a20 a21 a22 a23 a24 a25 a26 a27 a28 a29 a30 a31 a32 a33 a34 a35 a36 a37 a38 a39 ab v0 v1 v2 v3 v4 v5 v6 v7 v8 v9 v10 v11 v12 v13 v14 v15 v16 v17 v18 w807 v20 v21 v22 v23 v24 v25 v26 v27 v28 v29 v30 v31 v32 v33 v34 v35 v36 v37 v38 v39 v40 v41 v42 v43 w803 v46 v47 ++ ZP (xg x) a39 v45) [(5, .int r802), (0, .ref ab), (1, .ref a0), (2, .ref a27), (3, .ref a38), (4, .int z4)] (k0 + 1) (n0 + 6) 2460 [.int r806] from ?_)
    refine xw_istore hf (pc := 2460) dL_law_2460 [(6, .int r806), (5, .int r802), (0, .ref ab), (1, .ref a0), (2, .ref a27), (3, .ref a38), (4, .int z4)] hn (by decide) rfl ?_
    refine xw_aload_n hf (pc := 2462) dL_law_2462 rfl 4 rfl ?_
    refine xw_callV hf (pc := 2463) (nA := 0) (Xr := [(a0, .inr (8, [.ref a1, .ref a8, .ref a13, .ref a18, .ref a25])), (a1, .inr (2, [.ref a2, .ref a4, .ref a6])), (a2, .inr (7, [.ref a3, .int v0])), (a3, .inl (gJ (xg x), 60, .inr (.inl v1))), (a4, .inr (7, [.ref a5, .int v2])), (a5, .inl (gJ (xg x), 60, .inr (.inl v3))), (a6, .inr (3, [.ref a7])), (a7, .inl (gI (xg x), 32, .inl v4)), (a8, .inr (6, [.ref a9, .ref a11, .ref a12])), (a9, .inr (3, [.ref a10])), (a10, .inl (gI (xg x), 32, .inl v5)), (a11, .inl (gI (xg x), 32, .inl v6)), (a12, .inl (gI (xg x), 32, .inl v7)), (a13, .inr (1, [.ref a39, .ref a14, .ref a16, .int v8])), (a14, .inr (3, [.ref a15])), (a15, .inl (gI (xg x), 32, .inl v9)), (a16, .inr (3, [.ref a17])), (a17, .inl (gI (xg x), 32, .inl v10)), (a18, .inr (4, [.ref a19, .ref a21, .ref a23, .int v11, .int v12])), (a19, .inr (3, [.ref a20])), (a20, .inl (gI (xg x), 32, .inl v13)), (a21, .inr (7, [.ref a22, .int v14])), (a22, .inl (gJ (xg x), 60, .inr (.inl v15))), (a23, .inr (7, [.ref a24, .int v16])), (a24, .inl (gJ (xg x), 60, .inr (.inl v17))), (a25, .inr (3, [.ref a26])), (a26, .inl (gI (xg x), 32, .inl v18)), (a28, .inl (gJ (xg x), 60, .inr (.inl v25))), (a29, .inl (gI (xg x), 27, .inl v26)), (a30, .inl (gI (xg x), 27, .inl v27)), (a31, .inl (gI (xg x), 27, .inl v28)), (a32, .inl (gI (xg x), 27, .inl v29)), (v30, .inl (gJ (xg x), v31, .inr (.inl v32))), (v33, .inl (gI (xg x), v34, .inl v35)), (v36, .inl (gZ (xg x), v37, .inl v38)), (a33, .inl (gI (xg x), 12, .inl v39)), (a34, .inl (gI (xg x), 27, .inl v40)), (a35, .inl (gI (xg x), 27, .inl v41)), (a36, .inl (gI (xg x), 60, .inl v42)), (a37, .inl (gI (xg x), 3, .inl v43)), (a38, .inl (gJ (xg x), 1, .inr (.inl w803)))] ++ ZP (xg x) a39 v45) (rest := []) (T := TX9) (c_X9_thrown (xl x) (xg x) a27 a28 a29 a30 a31 a32 v30 v33 v36 a33 a34 a35 a36 a37 w807 v20 v21 v22 v23 v24 h) gL_law_X9_thrown (by rfl) rfl rfl (by decide +kernel) ⟨⟨(Nat.le_of_ble_eq_true rfl), (Nat.le_of_ble_eq_true rfl)⟩, (Nat.le_trans (Nat.le_add_right _ _) hk.1), (Nat.le_trans (Nat.le_add_right _ _) hk.2)⟩ (Nat.le_of_ble_eq_true rfl) rfl rfl (sb_zr (sb_of [27, 0, 1, 2, 3, 4, 5, 6, 7, 8, 9, 10, 11, 12, 13, 14, 15, 16, 17, 18, 19, 20, 21, 22, 23, 24, 25, 26, 28, 29, 30, 31, 32, 33, 34, 35, 36, 37, 38, 39, 40, 41] rfl rfl)) rfl dL_law_2463 (fun v X1 hp => ?_)
    obtain ⟨r808, rfl, rfl, h⟩ := hp
    refine xw_X (sb_rz (sb_of [1, 2, 3, 4, 5, 6, 7, 8, 9, 10, 11, 12, 13, 14, 15, 16, 17, 18, 19, 20, 21, 22, 23, 24, 25, 26, 27, 0, 28, 29, 30, 31, 32, 33, 34, 35, 36, 37, 38, 39, 40, 41] rfl rfl)) (show ww x (W_L_law (xg x) a0 a1 a2 a3 a4 a5 a6 a7 a8 a9 a10 a11 a12 a13 a14 a15 a16 a17 a18 a19 a20 a21 a22 a23 a24 a25 a26 a27 a28 a29 a30 a31 a32 a33 a34 a35 a36 a37 a38 a39 ab v0 v1 v2 v3 v4 v5 v6 v7 v8 v9 v10 v11 v12 v13 v14 v15 v16 v17 v18 w807 v20 v21 v22 v23 v24 v25 v26 v27 v28 v29 v30 v31 v32 v33 v34 v35 v36 v37 v38 v39 v40 v41 v42 v43 w803 v46 v47 ++ ZP (xg x) a39 v45) [(6, .int r806), (5, .int r802), (0, .ref ab), (1, .ref a0), (2, .ref a27), (3, .ref a38), (4, .int z4)] (k0 + 1) (n0 + 6) 2466 [.int r808] from ?_)
    refine xw_iload hf (pc := 2466) dL_law_2466 1 rfl ?_
    refine xw_icmp_eq hf (pc := 2468) dL_law_2468 (tgt := 2473) rfl ⟨fun c => ?_, fun c => ?_⟩
    · have h := h.1 c
      refine xw_iload hf (pc := 2473) dL_law_2473 1 rfl ?_
      refine xw_if_ne hf (pc := 2475) dL_law_2475 (c := r802 = 0) Iff.rfl (tgt := 2497) rfl ⟨fun c => ?_, fun c => ?_⟩
      · have h := h.1 c
        refine xw_aload_n hf (pc := 2478) dL_law_2478 rfl 5 rfl ?_
        refine xw_iconst hf (pc := 2479) dL_law_2479 (v := 0) (by decide) ?_
        refine xw_lald hf (pc := 2480) dL_law_2480 41 rfl h.1 ?_
        have h := h.2
        refine xw_iload hf (pc := 2481) dL_law_2481 0 rfl ?_
        refine xw_if_eq hf (pc := 2483) dL_law_2483 (c := r806 = 0) Iff.rfl (tgt := 2490) rfl ⟨fun c => ?_, fun c => ?_⟩
        · have h := h.1 c
          refine xw_lconst hf (pc := 2490) dL_law_2490 (v := 0) (by decide) ?_
          refine xw_lcmp hf (pc := 2491) dL_law_2491 ?_
          refine xw_if_eq hf (pc := 2492) dL_law_2492 (c := (w803 (0 : Int32).toNatClampNeg) = 0) (lc_eq _ _) (tgt := 2497) rfl ⟨fun c => ?_, fun c => ?_⟩
          · have h := h.1 c
            refine xw_goto hf (pc := 2497) dL_law_2497 (tgt := 2681) rfl ?_
            refine xw_L [2, 3, 4, 5, 6] rfl ?_
            exact hK2681 _ _ _ _ hk _ _ h
          · have h := h.2 c
            refine xw_iconst hf (pc := 2495) dL_law_2495 (v := 0) (by decide) ?_
            exact h.elim
        · have h := h.2 c
          refine xw_lconst hf (pc := 2486) dL_law_2486 (v := 1) (by decide) ?_
          refine xw_goto hf (pc := 2487) dL_law_2487 (tgt := 2491) rfl ?_
          refine xw_lcmp hf (pc := 2491) dL_law_2491 ?_
          refine xw_if_eq hf (pc := 2492) dL_law_2492 (c := (w803 (0 : Int32).toNatClampNeg) = 1) (lc_eq _ _) (tgt := 2497) rfl ⟨fun c => ?_, fun c => ?_⟩
          · have h := h.1 c
            refine xw_goto hf (pc := 2497) dL_law_2497 (tgt := 2681) rfl ?_
            refine xw_L [2, 3, 4, 5, 6] rfl ?_
            exact hK2681 _ _ _ _ hk _ _ h
          · have h := h.2 c
            refine xw_iconst hf (pc := 2495) dL_law_2495 (v := 0) (by decide) ?_
            exact h.elim
      · have h := h.2 c
        refine xw_goto hf (pc := 2497) dL_law_2497 (tgt := 2681) rfl ?_
        refine xw_L [2, 3, 4, 5, 6] rfl ?_
        exact hK2681 _ _ _ _ hk _ _ h
    · have h := h.2 c
      refine xw_iconst hf (pc := 2471) dL_law_2471 (v := 0) (by decide) ?_
      exact h.elim
set_option maxHeartbeats 4000000 in
set_option maxRecDepth 100000 in
theorem w_L_law_L2500 {x : Cx} {mc ms : Nat} (hf : fx x (rm_L_law) RL cL_law wsL_law) (hn : xn x = 8) {k0 n0 rc rs : Nat} (hk : k0 + rc ≤ (rm_L_law).cells ∧ n0 + rs ≤ (rm_L_law).slots) (a0 a1 a2 a3 a4 a5 a6 a7 a8 a9 a10 a11 a12 a13 a14 a15 a16 a17 a18 a19 a20 a21 a22 a23 a24 a25 a26 a27 a28 a29 a30 a31 a32 a33 a34 a35 a36 a37 a38 a39 ab : Nat) (z4 : Int32) (v20 : Int32) (v21 : Int32) (v24 : Int32) (v30 : Nat) (v31 : Nat) (v32 : Nat → Int64) (v33 : Nat) (v34 : Nat) (v35 : Nat → Int32) (v36 : Nat) (v37 : Nat) (v46 : Nat) (v47 : Nat → Int32) (v0 : Int32) (v1 : Nat → Int64) (v2 : Int32) (v3 : Nat → Int64) (v4 : Nat → Int32) (v6 : Nat → Int32) (v7 : Nat → Int32) (v9 : Nat → Int32) (v11 : Int32) (v12 : Int32) (v13 : Nat → Int32) (v14 : Int32) (v15 : Nat → Int64) (v16 : Int32) (v17 : Nat → Int64) (v25 : Nat → Int64) (v27 : Nat → Int32) (v28 : Nat → Int32) (v41 : Nat → Int32) (v42 : Nat → Int32) (v43 : Nat → Int32) {K2681 : Nat → Nat → (Nat → Int32) → Int32 → (Nat → Int32) → (Nat → Int32) → Int32 → Int32 → Int32 → (Nat → Int32) → (Nat → Int32) → (Nat → Int32) → (Nat → Int32) → (Nat → Int32) → (Nat → Int64) → ZL → Prop} (hst : (xl x).stackTraces = false) (hX : sX x ab v46 v47)
    (n : Nat) (v5 : Nat → Int32) (v8 : Int32) (v10 : Nat → Int32) (v18 : Nat → Int32) (v19 : Int32) (v22 : Int32) (v23 : Int32) (v26 : Nat → Int32) (v29 : Nat → Int32) (v38 : Nat → Int32) (v39 : Nat → Int32) (v40 : Nat → Int32) (v44 : Nat → Int64) (v45 : ZL) (h : P_L_law_L2500 z4 v20 v21 v24 v30 v31 v32 v33 v34 v35 v36 v37 v46 v47 K2681 n rc rs v5 v8 v10 v18 v19 v22 v23 v26 v29 v38 v39 v40 v44 v45)
    (hK2681 : ∀ (k0 n0 rc rs : Nat), k0 + rc ≤ (rm_L_law).cells ∧ n0 + rs ≤ (rm_L_law).slots → ∀ (uv5 : Nat → Int32), ∀ (uv8 : Int32), ∀ (uv10 : Nat → Int32), ∀ (uv18 : Nat → Int32), ∀ (uv19 : Int32), ∀ (uv22 : Int32), ∀ (uv23 : Int32), ∀ (uv26 : Nat → Int32), ∀ (uv29 : Nat → Int32), ∀ (uv38 : Nat → Int32), ∀ (uv39 : Nat → Int32), ∀ (uv40 : Nat → Int32), ∀ (uv44 : Nat → Int64), ∀ (uv45 : ZL), K2681 rc rs uv5 uv8 uv10 uv18 uv19 uv22 uv23 uv26 uv29 uv38 uv39 uv40 uv44 uv45 → ww x (W_L_law (xg x) a0 a1 a2 a3 a4 a5 a6 a7 a8 a9 a10 a11 a12 a13 a14 a15 a16 a17 a18 a19 a20 a21 a22 a23 a24 a25 a26 a27 a28 a29 a30 a31 a32 a33 a34 a35 a36 a37 a38 a39 ab v0 v1 v2 v3 v4 uv5 v6 v7 uv8 v9 uv10 v11 v12 v13 v14 v15 v16 v17 uv18 uv19 v20 v21 uv22 uv23 v24 v25 uv26 v27 v28 uv29 v30 v31 v32 v33 v34 v35 v36 v37 uv38 uv39 uv40 v41 v42 v43 uv44 v46 v47 ++ ZP (xg x) a39 uv45) [(0, .ref ab), (1, .ref a0), (2, .ref a27), (3, .ref a38), (4, .int z4)] k0 n0 2681 []) :
    ww x (W_L_law (xg x) a0 a1 a2 a3 a4 a5 a6 a7 a8 a9 a10 a11 a12 a13 a14 a15 a16 a17 a18 a19 a20 a21 a22 a23 a24 a25 a26 a27 a28 a29 a30 a31 a32 a33 a34 a35 a36 a37 a38 a39 ab v0 v1 v2 v3 v4 v5 v6 v7 v8 v9 v10 v11 v12 v13 v14 v15 v16 v17 v18 v19 v20 v21 v22 v23 v24 v25 v26 v27 v28 v29 v30 v31 v32 v33 v34 v35 v36 v37 v38 v39 v40 v41 v42 v43 v44 v46 v47 ++ ZP (xg x) a39 v45) [(0, .ref ab), (1, .ref a0), (2, .ref a27), (3, .ref a38), (4, .int z4)] k0 n0 2500 [] := by
  induction n generalizing k0 n0 rc rs v5 v8 v10 v18 v19 v22 v23 v26 v29 v38 v39 v40 v44 v45 with
  | zero => exact h.elim
  | succ n ih =>
    unfold P_L_law_L2500 at h
    refine xw_aload_n hf (pc := 2500) dL_law_2500 rfl 1 rfl ?_
    refine xw_aload_n hf (pc := 2501) dL_law_2501 rfl 0 rfl ?_
    refine xw_iload hf (pc := 2502) dL_law_2502 4 rfl ?_
    refine xw_iconst hf (pc := 2504) dL_law_2504 (v := 1) (by decide) ?_
    refine xw_iadd hf (pc := 2505) dL_law_2505 ?_
    refine xw_sald hf hX dL_law_2506 h.1 ?_
    have h := h.2
    refine xw_aload_n hf (pc := 2507) dL_law_2507 rfl 3 rfl ?_
    obtain ⟨mc822, ms823, ⟨hb1, hb2⟩, h⟩ := h
    refine xw_callSW hf (pc := 2508) (nA := 3) (Xr := [(a1, .inr (2, [.ref a2, .ref a4, .ref a6])), (a2, .inr (7, [.ref a3, .int v0])), (a3, .inl (gJ (xg x), 60, .inr (.inl v1))), (a4, .inr (7, [.ref a5, .int v2])), (a5, .inl (gJ (xg x), 60, .inr (.inl v3))), (a6, .inr (3, [.ref a7])), (a7, .inl (gI (xg x), 32, .inl v4)), (a11, .inl (gI (xg x), 32, .inl v6)), (a12, .inl (gI (xg x), 32, .inl v7)), (a14, .inr (3, [.ref a15])), (a15, .inl (gI (xg x), 32, .inl v9)), (a18, .inr (4, [.ref a19, .ref a21, .ref a23, .int v11, .int v12])), (a19, .inr (3, [.ref a20])), (a20, .inl (gI (xg x), 32, .inl v13)), (a21, .inr (7, [.ref a22, .int v14])), (a22, .inl (gJ (xg x), 60, .inr (.inl v15))), (a23, .inr (7, [.ref a24, .int v16])), (a24, .inl (gJ (xg x), 60, .inr (.inl v17))), (a27, .inr (9, [.int v19, .ref a28, .int v20, .ref a29, .ref a30, .ref a31, .ref a32, .ref v30, .ref v33, .ref v36, .int v21, .int v22, .ref a33, .int v23, .ref a34, .ref a35, .ref a36, .ref a37, .int v24])), (a28, .inl (gJ (xg x), 60, .inr (.inl v25))), (a29, .inl (gI (xg x), 27, .inl v26)), (a30, .inl (gI (xg x), 27, .inl v27)), (a31, .inl (gI (xg x), 27, .inl v28)), (a32, .inl (gI (xg x), 27, .inl v29)), (v30, .inl (gJ (xg x), v31, .inr (.inl v32))), (v33, .inl (gI (xg x), v34, .inl v35)), (v36, .inl (gZ (xg x), v37, .inl v38)), (a33, .inl (gI (xg x), 12, .inl v39)), (a34, .inl (gI (xg x), 27, .inl v40)), (a35, .inl (gI (xg x), 27, .inl v41)), (a36, .inl (gI (xg x), 60, .inl v42)), (a37, .inl (gI (xg x), 3, .inl v43))]) (rest := []) (c_L_takeBack (xl x) (xg x) hst a0 a8 a9 a10 a13 a16 a17 a25 a26 a38 a39 a1 a18 a11 a12 a14 v5 v8 v10 v18 v44 v45 (v47 (z4 + 1).toNatClampNeg) h) gL_law_L_takeBack (by rfl) rfl (by decide +kernel) ⟨⟨(Nat.le_of_ble_eq_true rfl), (Nat.le_of_ble_eq_true rfl)⟩, (Nat.le_trans (show k0 + 2 ≤ k0 + rc by omega) hk.1), (Nat.le_trans (show n0 + 12 ≤ n0 + rs by omega) hk.2)⟩ (Nat.le_of_ble_eq_true rfl) (sb_zc (sb_of [0, 8, 9, 10, 13, 16, 17, 25, 26, 41, 1, 2, 3, 4, 5, 6, 7, 11, 12, 14, 15, 18, 19, 20, 21, 22, 23, 24, 27, 28, 29, 30, 31, 32, 33, 34, 35, 36, 37, 38, 39, 40] rfl rfl)) rfl dL_law_2508 (fun v X1 hp => ?_)
    obtain ⟨r815, w816, w817, w818, w819, w820, w821, rfl, rfl, h⟩ := hp
    have hk : k0 + 2 + mc822 ≤ (rm_L_law).cells ∧ n0 + 12 + ms823 ≤ (rm_L_law).slots := ⟨Nat.le_trans (show k0 + 2 + mc822 ≤ k0 + rc by omega) hk.1, Nat.le_trans (show n0 + 12 + ms823 ≤ n0 + rs by omega) hk.2⟩
    refine xw_X (sb_cz (sb_of [0, 10, 11, 12, 13, 14, 15, 16, 1, 2, 3, 17, 18, 4, 19, 20, 5, 6, 21, 22, 23, 24, 25, 26, 27, 7, 8, 28, 29, 30, 31, 32, 33, 34, 35, 36, 37, 38, 39, 40, 41, 9] rfl rfl)) (show ww x (W_L_law (xg x) a0 a1 a2 a3 a4 a5 a6 a7 a8 a9 a10 a11 a12 a13 a14 a15 a16 a17 a18 a19 a20 a21 a22 a23 a24 a25 a26 a27 a28 a29 a30 a31 a32 a33 a34 a35 a36 a37 a38 a39 ab v0 v1 v2 v3 v4 w816 v6 v7 w817 v9 w818 v11 v12 v13 v14 v15 v16 v17 w819 v19 v20 v21 v22 v23 v24 v25 v26 v27 v28 v29 v30 v31 v32 v33 v34 v35 v36 v37 v38 v39 v40 v41 v42 v43 w820 v46 v47 ++ ZP (xg x) a39 w821) [(0, .ref ab), (1, .ref a0), (2, .ref a27), (3, .ref a38), (4, .int z4)] (k0 + 2) (n0 + 12) 2511 [.int r815] from ?_)
    refine xw_istore hf (pc := 2511) dL_law_2511 [(5, .int r815), (0, .ref ab), (1, .ref a0), (2, .ref a27), (3, .ref a38), (4, .int z4)] hn (by decide) rfl ?_
    refine xw_aload_n hf (pc := 2513) dL_law_2513 rfl 3 rfl ?_
    refine xw_aload_n hf (pc := 2514) dL_law_2514 rfl 1 rfl ?_
    refine xw_iload hf (pc := 2515) dL_law_2515 5 rfl ?_
    refine xw_iconst hf (pc := 2517) dL_law_2517 (v := 1) (by decide) ?_
    refine xw_iadd hf (pc := 2518) dL_law_2518 ?_
    refine xw_sald hf hX dL_law_2519 h.1 ?_
    have h := h.2
    refine xw_callV hf (pc := 2520) (nA := 1) (Xr := [(a0, .inr (8, [.ref a1, .ref a8, .ref a13, .ref a18, .ref a25])), (a1, .inr (2, [.ref a2, .ref a4, .ref a6])), (a2, .inr (7, [.ref a3, .int v0])), (a3, .inl (gJ (xg x), 60, .inr (.inl v1))), (a4, .inr (7, [.ref a5, .int v2])), (a5, .inl (gJ (xg x), 60, .inr (.inl v3))), (a6, .inr (3, [.ref a7])), (a7, .inl (gI (xg x), 32, .inl v4)), (a8, .inr (6, [.ref a9, .ref a11, .ref a12])), (a9, .inr (3, [.ref a10])), (a10, .inl (gI (xg x), 32, .inl w816)), (a11, .inl (gI (xg x), 32, .inl v6)), (a12, .inl (gI (xg x), 32, .inl v7)), (a13, .inr (1, [.ref a39, .ref a14, .ref a16, .int w817])), (a14, .inr (3, [.ref a15])), (a15, .inl (gI (xg x), 32, .inl v9)), (a16, .inr (3, [.ref a17])), (a17, .inl (gI (xg x), 32, .inl w818)), (a18, .inr (4, [.ref a19, .ref a21, .ref a23, .int v11, .int v12])), (a19, .inr (3, [.ref a20])), (a20, .inl (gI (xg x), 32, .inl v13)), (a21, .inr (7, [.ref a22, .int v14])), (a22, .inl (gJ (xg x), 60, .inr (.inl v15))), (a23, .inr (7, [.ref a24, .int v16])), (a24, .inl (gJ (xg x), 60, .inr (.inl v17))), (a25, .inr (3, [.ref a26])), (a26, .inl (gI (xg x), 32, .inl w819)), (a28, .inl (gJ (xg x), 60, .inr (.inl v25))), (a30, .inl (gI (xg x), 27, .inl v27)), (a31, .inl (gI (xg x), 27, .inl v28)), (a35, .inl (gI (xg x), 27, .inl v41)), (a36, .inl (gI (xg x), 60, .inl v42)), (a37, .inl (gI (xg x), 3, .inl v43)), (a38, .inl (gJ (xg x), 1, .inr (.inl w820)))] ++ ZP (xg x) a39 w821) (rest := []) (T := TX9) (c_X9_takeBack (xl x) (xg x) a27 a29 a32 a33 a34 a28 a30 a31 a35 a36 a37 v19 v20 v21 v22 v23 v24 v26 v29 v30 v31 v32 v33 v34 v35 v36 v37 v38 v39 v40 (v47 (z4 + 1).toNatClampNeg) h) gL_law_X9_takeBack (by rfl) rfl rfl (by decide +kernel) ⟨⟨(Nat.le_of_ble_eq_true rfl), (Nat.le_of_ble_eq_true rfl)⟩, (Nat.le_trans (Nat.le_add_right _ _) hk.1), (Nat.le_trans (Nat.le_add_right _ _) hk.2)⟩ (Nat.le_of_ble_eq_true rfl) rfl rfl (sb_zr (sb_of [27, 29, 32, 33, 34, 35, 36, 37, 0, 1, 2, 3, 4, 5, 6, 7, 8, 9, 10, 11, 12, 13, 14, 15, 16, 17, 18, 19, 20, 21, 22, 23, 24, 25, 26, 28, 30, 31, 38, 39, 40, 41] rfl rfl)) rfl dL_law_2520 (fun v X1 hp => ?_)
    obtain ⟨r824, w825, w826, w827, w828, w829, w830, w831, w832, rfl, rfl, h⟩ := hp
    refine xw_X (sb_rz (sb_of [8, 9, 10, 11, 12, 13, 14, 15, 16, 17, 18, 19, 20, 21, 22, 23, 24, 25, 26, 27, 28, 29, 30, 31, 32, 33, 34, 0, 35, 1, 36, 37, 2, 3, 4, 5, 6, 7, 38, 39, 40, 41] rfl rfl)) (show ww x (W_L_law (xg x) a0 a1 a2 a3 a4 a5 a6 a7 a8 a9 a10 a11 a12 a13 a14 a15 a16 a17 a18 a19 a20 a21 a22 a23 a24 a25 a26 a27 a28 a29 a30 a31 a32 a33 a34 a35 a36 a37 a38 a39 ab v0 v1 v2 v3 v4 w816 v6 v7 w817 v9 w818 v11 v12 v13 v14 v15 v16 v17 w819 w825 v20 v21 w826 w827 v24 v25 w828 v27 v28 w829 v30 v31 v32 v33 v34 v35 v36 v37 w830 w831 w832 v41 v42 v43 w820 v46 v47 ++ ZP (xg x) a39 w821) [(5, .int r815), (0, .ref ab), (1, .ref a0), (2, .ref a27), (3, .ref a38), (4, .int z4)] (k0 + 2) (n0 + 12) 2523 [.int r824] from ?_)
    refine xw_istore hf (pc := 2523) dL_law_2523 [(6, .int r824), (5, .int r815), (0, .ref ab), (1, .ref a0), (2, .ref a27), (3, .ref a38), (4, .int z4)] hn (by decide) rfl ?_
    refine xw_aload_n hf (pc := 2525) dL_law_2525 rfl 4 rfl ?_
    refine xw_callV hf (pc := 2526) (nA := 0) (Xr := [(a0, .inr (8, [.ref a1, .ref a8, .ref a13, .ref a18, .ref a25])), (a1, .inr (2, [.ref a2, .ref a4, .ref a6])), (a2, .inr (7, [.ref a3, .int v0])), (a3, .inl (gJ (xg x), 60, .inr (.inl v1))), (a4, .inr (7, [.ref a5, .int v2])), (a5, .inl (gJ (xg x), 60, .inr (.inl v3))), (a6, .inr (3, [.ref a7])), (a7, .inl (gI (xg x), 32, .inl v4)), (a8, .inr (6, [.ref a9, .ref a11, .ref a12])), (a9, .inr (3, [.ref a10])), (a10, .inl (gI (xg x), 32, .inl w816)), (a11, .inl (gI (xg x), 32, .inl v6)), (a12, .inl (gI (xg x), 32, .inl v7)), (a13, .inr (1, [.ref a39, .ref a14, .ref a16, .int w817])), (a14, .inr (3, [.ref a15])), (a15, .inl (gI (xg x), 32, .inl v9)), (a16, .inr (3, [.ref a17])), (a17, .inl (gI (xg x), 32, .inl w818)), (a18, .inr (4, [.ref a19, .ref a21, .ref a23, .int v11, .int v12])), (a19, .inr (3, [.ref a20])), (a20, .inl (gI (xg x), 32, .inl v13)), (a21, .inr (7, [.ref a22, .int v14])), (a22, .inl (gJ (xg x), 60, .inr (.inl v15))), (a23, .inr (7, [.ref a24, .int v16])), (a24, .inl (gJ (xg x), 60, .inr (.inl v17))), (a25, .inr (3, [.ref a26])), (a26, .inl (gI (xg x), 32, .inl w819)), (a28, .inl (gJ (xg x), 60, .inr (.inl v25))), (a29, .inl (gI (xg x), 27, .inl w828)), (a30, .inl (gI (xg x), 27, .inl v27)), (a31, .inl (gI (xg x), 27, .inl v28)), (a32, .inl (gI (xg x), 27, .inl w829)), (v30, .inl (gJ (xg x), v31, .inr (.inl v32))), (v33, .inl (gI (xg x), v34, .inl v35)), (v36, .inl (gZ (xg x), v37, .inl w830)), (a33, .inl (gI (xg x), 12, .inl w831)), (a34, .inl (gI (xg x), 27, .inl w832)), (a35, .inl (gI (xg x), 27, .inl v41)), (a36, .inl (gI (xg x), 60, .inl v42)), (a37, .inl (gI (xg x), 3, .inl v43)), (a38, .inl (gJ (xg x), 1, .inr (.inl w820)))] ++ ZP (xg x) a39 w821) (rest := []) (T := TX9) (c_X9_thrown (xl x) (xg x) a27 a28 a29 a30 a31 a32 v30 v33 v36 a33 a34 a35 a36 a37 w825 v20 v21 w826 w827 v24 h) gL_law_X9_thrown (by rfl) rfl rfl (by decide +kernel) ⟨⟨(Nat.le_of_ble_eq_true rfl), (Nat.le_of_ble_eq_true rfl)⟩, (Nat.le_trans (Nat.le_add_right _ _) hk.1), (Nat.le_trans (Nat.le_add_right _ _) hk.2)⟩ (Nat.le_of_ble_eq_true rfl) rfl rfl (sb_zr (sb_of [27, 0, 1, 2, 3, 4, 5, 6, 7, 8, 9, 10, 11, 12, 13, 14, 15, 16, 17, 18, 19, 20, 21, 22, 23, 24, 25, 26, 28, 29, 30, 31, 32, 33, 34, 35, 36, 37, 38, 39, 40, 41] rfl rfl)) rfl dL_law_2526 (fun v X1 hp => ?_)
    obtain ⟨r833, rfl, rfl, h⟩ := hp
    refine xw_X (sb_rz (sb_of [1, 2, 3, 4, 5, 6, 7, 8, 9, 10, 11, 12, 13, 14, 15, 16, 17, 18, 19, 20, 21, 22, 23, 24, 25, 26, 27, 0, 28, 29, 30, 31, 32, 33, 34, 35, 36, 37, 38, 39, 40, 41] rfl rfl)) (show ww x (W_L_law (xg x) a0 a1 a2 a3 a4 a5 a6 a7 a8 a9 a10 a11 a12 a13 a14 a15 a16 a17 a18 a19 a20 a21 a22 a23 a24 a25 a26 a27 a28 a29 a30 a31 a32 a33 a34 a35 a36 a37 a38 a39 ab v0 v1 v2 v3 v4 w816 v6 v7 w817 v9 w818 v11 v12 v13 v14 v15 v16 v17 w819 w825 v20 v21 w826 w827 v24 v25 w828 v27 v28 w829 v30 v31 v32 v33 v34 v35 v36 v37 w830 w831 w832 v41 v42 v43 w820 v46 v47 ++ ZP (xg x) a39 w821) [(6, .int r824), (5, .int r815), (0, .ref ab), (1, .ref a0), (2, .ref a27), (3, .ref a38), (4, .int z4)] (k0 + 2) (n0 + 12) 2529 [.int r833] from ?_)
    refine xw_iload hf (pc := 2529) dL_law_2529 1 rfl ?_
    refine xw_icmp_eq hf (pc := 2531) dL_law_2531 (tgt := 2536) rfl ⟨fun c => ?_, fun c => ?_⟩
    · have h := h.1 c
      refine xw_iload hf (pc := 2536) dL_law_2536 1 rfl ?_
      refine xw_if_ne hf (pc := 2538) dL_law_2538 (c := r815 = 0) Iff.rfl (tgt := 2553) rfl ⟨fun c => ?_, fun c => ?_⟩
      · have h := h.1 c
        refine xw_aload_n hf (pc := 2541) dL_law_2541 rfl 5 rfl ?_
        refine xw_iconst hf (pc := 2542) dL_law_2542 (v := 0) (by decide) ?_
        refine xw_lald hf (pc := 2543) dL_law_2543 41 rfl h.1 ?_
        have h := h.2
        refine xw_iload hf (pc := 2544) dL_law_2544 0 rfl ?_
        refine xw_i2l hf (pc := 2546) dL_law_2546 ?_
        refine xw_lcmp hf (pc := 2547) dL_law_2547 ?_
        refine xw_if_eq hf (pc := 2548) dL_law_2548 (c := (w820 (0 : Int32).toNatClampNeg) = r824.toInt64) (lc_eq _ _) (tgt := 2553) rfl ⟨fun c => ?_, fun c => ?_⟩
        · have h := h.1 c
          refine xw_goto hf (pc := 2553) dL_law_2553 (tgt := 2681) rfl ?_
          refine xw_L [2, 3, 4, 5, 6] rfl ?_
          exact hK2681 _ _ _ _ hk _ _ _ _ _ _ _ _ _ _ _ _ _ _ h
        · have h := h.2 c
          refine xw_iconst hf (pc := 2551) dL_law_2551 (v := 0) (by decide) ?_
          exact h.elim
      · have h := h.2 c
        refine xw_goto hf (pc := 2553) dL_law_2553 (tgt := 2681) rfl ?_
        refine xw_L [2, 3, 4, 5, 6] rfl ?_
        exact hK2681 _ _ _ _ hk _ _ _ _ _ _ _ _ _ _ _ _ _ _ h
    · have h := h.2 c
      refine xw_iconst hf (pc := 2534) dL_law_2534 (v := 0) (by decide) ?_
      exact h.elim
set_option maxHeartbeats 4000000 in
set_option maxRecDepth 100000 in
theorem w_L_law_L2556 {x : Cx} {mc ms : Nat} (hf : fx x (rm_L_law) RL cL_law wsL_law) (hn : xn x = 8) {k0 n0 rc rs : Nat} (hk : k0 + rc ≤ (rm_L_law).cells ∧ n0 + rs ≤ (rm_L_law).slots) (a0 a1 a2 a3 a4 a5 a6 a7 a8 a9 a10 a11 a12 a13 a14 a15 a16 a17 a18 a19 a20 a21 a22 a23 a24 a25 a26 a27 a28 a29 a30 a31 a32 a33 a34 a35 a36 a37 a38 a39 ab : Nat) (z4 : Int32) (v8 : Int32) (v20 : Int32) (v21 : Int32) (v22 : Int32) (v23 : Int32) (v24 : Int32) (v0 : Int32) (v1 : Nat → Int64) (v2 : Int32) (v3 : Nat → Int64) (v4 : Nat → Int32) (v5 : Nat → Int32) (v6 : Nat → Int32) (v7 : Nat → Int32) (v9 : Nat → Int32) (v10 : Nat → Int32) (v11 : Int32) (v12 : Int32) (v13 : Nat → Int32) (v14 : Int32) (v15 : Nat → Int64) (v16 : Int32) (v17 : Nat → Int64) (v18 : Nat → Int32) (v25 : Nat → Int64) (v26 : Nat → Int32) (v27 : Nat → Int32) (v28 : Nat → Int32) (v29 : Nat → Int32) (v30 : Nat) (v31 : Nat) (v32 : Nat → Int64) (v33 : Nat) (v34 : Nat) (v35 : Nat → Int32) (v36 : Nat) (v37 : Nat) (v38 : Nat → Int32) (v39 : Nat → Int32) (v40 : Nat → Int32) (v41 : Nat → Int32) (v42 : Nat → Int32) (v43 : Nat → Int32) (v44 : Nat → Int64) (v45 : ZL) (v46 : Nat) (v47 : Nat → Int32) {K2681 : Nat → Nat → Int32 → Prop} (hst : (xl x).stackTraces = false) (hX : sX x ab v46 v47)
    (n : Nat) (v19 : Int32) (h : P_L_law_L2556 z4 v8 v20 v21 v22 v23 v24 K2681 n rc rs v19)
    (hK2681 : ∀ (k0 n0 rc rs : Nat), k0 + rc ≤ (rm_L_law).cells ∧ n0 + rs ≤ (rm_L_law).slots → ∀ (uv19 : Int32), K2681 rc rs uv19 → ww x (W_L_law (xg x) a0 a1 a2 a3 a4 a5 a6 a7 a8 a9 a10 a11 a12 a13 a14 a15 a16 a17 a18 a19 a20 a21 a22 a23 a24 a25 a26 a27 a28 a29 a30 a31 a32 a33 a34 a35 a36 a37 a38 a39 ab v0 v1 v2 v3 v4 v5 v6 v7 v8 v9 v10 v11 v12 v13 v14 v15 v16 v17 v18 uv19 v20 v21 v22 v23 v24 v25 v26 v27 v28 v29 v30 v31 v32 v33 v34 v35 v36 v37 v38 v39 v40 v41 v42 v43 v44 v46 v47 ++ ZP (xg x) a39 v45) [(0, .ref ab), (1, .ref a0), (2, .ref a27), (3, .ref a38), (4, .int z4)] k0 n0 2681 []) :
    ww x (W_L_law (xg x) a0 a1 a2 a3 a4 a5 a6 a7 a8 a9 a10 a11 a12 a13 a14 a15 a16 a17 a18 a19 a20 a21 a22 a23 a24 a25 a26 a27 a28 a29 a30 a31 a32 a33 a34 a35 a36 a37 a38 a39 ab v0 v1 v2 v3 v4 v5 v6 v7 v8 v9 v10 v11 v12 v13 v14 v15 v16 v17 v18 v19 v20 v21 v22 v23 v24 v25 v26 v27 v28 v29 v30 v31 v32 v33 v34 v35 v36 v37 v38 v39 v40 v41 v42 v43 v44 v46 v47 ++ ZP (xg x) a39 v45) [(0, .ref ab), (1, .ref a0), (2, .ref a27), (3, .ref a38), (4, .int z4)] k0 n0 2556 [] := by
  induction n generalizing k0 n0 rc rs v19 with
  | zero => exact h.elim
  | succ n ih =>
    unfold P_L_law_L2556 at h
    refine xw_aload_n hf (pc := 2556) dL_law_2556 rfl 1 rfl ?_
    refine xw_callV hf (pc := 2557) (nA := 0) (Xr := [(a1, .inr (2, [.ref a2, .ref a4, .ref a6])), (a2, .inr (7, [.ref a3, .int v0])), (a3, .inl (gJ (xg x), 60, .inr (.inl v1))), (a4, .inr (7, [.ref a5, .int v2])), (a5, .inl (gJ (xg x), 60, .inr (.inl v3))), (a6, .inr (3, [.ref a7])), (a7, .inl (gI (xg x), 32, .inl v4)), (a8, .inr (6, [.ref a9, .ref a11, .ref a12])), (a9, .inr (3, [.ref a10])), (a10, .inl (gI (xg x), 32, .inl v5)), (a11, .inl (gI (xg x), 32, .inl v6)), (a12, .inl (gI (xg x), 32, .inl v7)), (a14, .inr (3, [.ref a15])), (a15, .inl (gI (xg x), 32, .inl v9)), (a16, .inr (3, [.ref a17])), (a17, .inl (gI (xg x), 32, .inl v10)), (a18, .inr (4, [.ref a19, .ref a21, .ref a23, .int v11, .int v12])), (a19, .inr (3, [.ref a20])), (a20, .inl (gI (xg x), 32, .inl v13)), (a21, .inr (7, [.ref a22, .int v14])), (a22, .inl (gJ (xg x), 60, .inr (.inl v15))), (a23, .inr (7, [.ref a24, .int v16])), (a24, .inl (gJ (xg x), 60, .inr (.inl v17))), (a25, .inr (3, [.ref a26])), (a26, .inl (gI (xg x), 32, .inl v18)), (a27, .inr (9, [.int v19, .ref a28, .int v20, .ref a29, .ref a30, .ref a31, .ref a32, .ref v30, .ref v33, .ref v36, .int v21, .int v22, .ref a33, .int v23, .ref a34, .ref a35, .ref a36, .ref a37, .int v24])), (a28, .inl (gJ (xg x), 60, .inr (.inl v25))), (a29, .inl (gI (xg x), 27, .inl v26)), (a30, .inl (gI (xg x), 27, .inl v27)), (a31, .inl (gI (xg x), 27, .inl v28)), (a32, .inl (gI (xg x), 27, .inl v29)), (v30, .inl (gJ (xg x), v31, .inr (.inl v32))), (v33, .inl (gI (xg x), v34, .inl v35)), (v36, .inl (gZ (xg x), v37, .inl v38)), (a33, .inl (gI (xg x), 12, .inl v39)), (a34, .inl (gI (xg x), 27, .inl v40)), (a35, .inl (gI (xg x), 27, .inl v41)), (a36, .inl (gI (xg x), 60, .inl v42)), (a37, .inl (gI (xg x), 3, .inl v43)), (a38, .inl (gJ (xg x), 1, .inr (.inl v44)))] ++ ZP (xg x) a39 v45) (rest := []) (T := TX8) (c_X8_takings (xl x) (xg x) a0 a13 a1 a8 a18 a25 a39 a14 a16 v8 h) gL_law_X8_takings (by rfl) rfl rfl (by decide +kernel) ⟨⟨(Nat.le_of_ble_eq_true rfl), (Nat.le_of_ble_eq_true rfl)⟩, (Nat.le_trans (Nat.le_add_right _ _) hk.1), (Nat.le_trans (Nat.le_add_right _ _) hk.2)⟩ (Nat.le_of_ble_eq_true rfl) rfl rfl (sb_zr (sb_of [0, 13, 1, 2, 3, 4, 5, 6, 7, 8, 9, 10, 11, 12, 14, 15, 16, 17, 18, 19, 20, 21, 22, 23, 24, 25, 26, 27, 28, 29, 30, 31, 32, 33, 34, 35, 36, 37, 38, 39, 40, 41] rfl rfl)) rfl dL_law_2557 (fun v X1 hp => ?_)
    obtain ⟨r852, rfl, rfl, h⟩ := hp
    refine xw_X (sb_rz (sb_of [0, 2, 3, 4, 5, 6, 7, 8, 9, 10, 11, 12, 13, 1, 14, 15, 16, 17, 18, 19, 20, 21, 22, 23, 24, 25, 26, 27, 28, 29, 30, 31, 32, 33, 34, 35, 36, 37, 38, 39, 40, 41] rfl rfl)) (show ww x (W_L_law (xg x) a0 a1 a2 a3 a4 a5 a6 a7 a8 a9 a10 a11 a12 a13 a14 a15 a16 a17 a18 a19 a20 a21 a22 a23 a24 a25 a26 a27 a28 a29 a30 a31 a32 a33 a34 a35 a36 a37 a38 a39 ab v0 v1 v2 v3 v4 v5 v6 v7 v8 v9 v10 v11 v12 v13 v14 v15 v16 v17 v18 v19 v20 v21 v22 v23 v24 v25 v26 v27 v28 v29 v30 v31 v32 v33 v34 v35 v36 v37 v38 v39 v40 v41 v42 v43 v44 v46 v47 ++ ZP (xg x) a39 v45) [(0, .ref ab), (1, .ref a0), (2, .ref a27), (3, .ref a38), (4, .int z4)] k0 n0 2560 [.int r852] from ?_)
    refine xw_aload_n hf (pc := 2560) dL_law_2560 rfl 2 rfl ?_
    refine xw_callV hf (pc := 2561) (nA := 0) (Xr := [(a0, .inr (8, [.ref a1, .ref a8, .ref a13, .ref a18, .ref a25])), (a1, .inr (2, [.ref a2, .ref a4, .ref a6])), (a2, .inr (7, [.ref a3, .int v0])), (a3, .inl (gJ (xg x), 60, .inr (.inl v1))), (a4, .inr (7, [.ref a5, .int v2])), (a5, .inl (gJ (xg x), 60, .inr (.inl v3))), (a6, .inr (3, [.ref a7])), (a7, .inl (gI (xg x), 32, .inl v4)), (a8, .inr (6, [.ref a9, .ref a11, .ref a12])), (a9, .inr (3, [.ref a10])), (a10, .inl (gI (xg x), 32, .inl v5)), (a11, .inl (gI (xg x), 32, .inl v6)), (a12, .inl (gI (xg x), 32, .inl v7)), (a13, .inr (1, [.ref a39, .ref a14, .ref a16, .int v8])), (a14, .inr (3, [.ref a15])), (a15, .inl (gI (xg x), 32, .inl v9)), (a16, .inr (3, [.ref a17])), (a17, .inl (gI (xg x), 32, .inl v10)), (a18, .inr (4, [.ref a19, .ref a21, .ref a23, .int v11, .int v12])), (a19, .inr (3, [.ref a20])), (a20, .inl (gI (xg x), 32, .inl v13)), (a21, .inr (7, [.ref a22, .int v14])), (a22, .inl (gJ (xg x), 60, .inr (.inl v15))), (a23, .inr (7, [.ref a24, .int v16])), (a24, .inl (gJ (xg x), 60, .inr (.inl v17))), (a25, .inr (3, [.ref a26])), (a26, .inl (gI (xg x), 32, .inl v18)), (a28, .inl (gJ (xg x), 60, .inr (.inl v25))), (a29, .inl (gI (xg x), 27, .inl v26)), (a30, .inl (gI (xg x), 27, .inl v27)), (a31, .inl (gI (xg x), 27, .inl v28)), (a32, .inl (gI (xg x), 27, .inl v29)), (v30, .inl (gJ (xg x), v31, .inr (.inl v32))), (v33, .inl (gI (xg x), v34, .inl v35)), (v36, .inl (gZ (xg x), v37, .inl v38)), (a33, .inl (gI (xg x), 12, .inl v39)), (a34, .inl (gI (xg x), 27, .inl v40)), (a35, .inl (gI (xg x), 27, .inl v41)), (a36, .inl (gI (xg x), 60, .inl v42)), (a37, .inl (gI (xg x), 3, .inl v43)), (a38, .inl (gJ (xg x), 1, .inr (.inl v44)))] ++ ZP (xg x) a39 v45) (rest := [.int r852]) (T := TX9) (c_X9_takings (xl x) (xg x) a27 a28 a29 a30 a31 a32 v30 v33 v36 a33 a34 a35 a36 a37 v19 v20 v21 v22 v23 v24 h) gL_law_X9_takings (by rfl) rfl rfl (by decide +kernel) ⟨⟨(Nat.le_of_ble_eq_true rfl), (Nat.le_of_ble_eq_true rfl)⟩, (Nat.le_trans (Nat.le_add_right _ _) hk.1), (Nat.le_trans (Nat.le_add_right _ _) hk.2)⟩ (Nat.le_of_ble_eq_true rfl) rfl rfl (sb_zr (sb_of [27, 0, 1, 2, 3, 4, 5, 6, 7, 8, 9, 10, 11, 12, 13, 14, 15, 16, 17, 18, 19, 20, 21, 22, 23, 24, 25, 26, 28, 29, 30, 31, 32, 33, 34, 35, 36, 37, 38, 39, 40, 41] rfl rfl)) rfl dL_law_2561 (fun v X1 hp => ?_)
    obtain ⟨r853, w854, rfl, rfl, h⟩ := hp
    refine xw_X (sb_rz (sb_of [1, 2, 3, 4, 5, 6, 7, 8, 9, 10, 11, 12, 13, 14, 15, 16, 17, 18, 19, 20, 21, 22, 23, 24, 25, 26, 27, 0, 28, 29, 30, 31, 32, 33, 34, 35, 36, 37, 38, 39, 40, 41] rfl rfl)) (show ww x (W_L_law (xg x) a0 a1 a2 a3 a4 a5 a6 a7 a8 a9 a10 a11 a12 a13 a14 a15 a16 a17 a18 a19 a20 a21 a22 a23 a24 a25 a26 a27 a28 a29 a30 a31 a32 a33 a34 a35 a36 a37 a38 a39 ab v0 v1 v2 v3 v4 v5 v6 v7 v8 v9 v10 v11 v12 v13 v14 v15 v16 v17 v18 w854 v20 v21 v22 v23 v24 v25 v26 v27 v28 v29 v30 v31 v32 v33 v34 v35 v36 v37 v38 v39 v40 v41 v42 v43 v44 v46 v47 ++ ZP (xg x) a39 v45) [(0, .ref ab), (1, .ref a0), (2, .ref a27), (3, .ref a38), (4, .int z4)] k0 n0 2564 [.int r853, .int r852] from ?_)
    refine xw_icmp_eq hf (pc := 2564) dL_law_2564 (tgt := 2681) rfl ⟨fun c => ?_, fun c => ?_⟩
    · have h := h.1 c
      refine xw_L [0, 1, 2, 3, 4] rfl ?_
      exact hK2681 _ _ _ _ hk _ h
    · have h := h.2 c
      refine xw_iconst hf (pc := 2567) dL_law_2567 (v := 0) (by decide) ?_
      exact h.elim
set_option maxHeartbeats 4000000 in
set_option maxRecDepth 100000 in
theorem w_L_law_L2569 {x : Cx} {mc ms : Nat} (hf : fx x (rm_L_law) RL cL_law wsL_law) (hn : xn x = 8) {k0 n0 rc rs : Nat} (hk : k0 + rc ≤ (rm_L_law).cells ∧ n0 + rs ≤ (rm_L_law).slots) (a0 a1 a2 a3 a4 a5 a6 a7 a8 a9 a10 a11 a12 a13 a14 a15 a16 a17 a18 a19 a20 a21 a22 a23 a24 a25 a26 a27 a28 a29 a30 a31 a32 a33 a34 a35 a36 a37 a38 a39 ab : Nat) (z4 : Int32) (v8 : Int32) (v9 : Nat → Int32) (v20 : Int32) (v21 : Int32) (v22 : Int32) (v23 : Int32) (v24 : Int32) (v28 : Nat → Int32) (v46 : Nat) (v47 : Nat → Int32) (v0 : Int32) (v1 : Nat → Int64) (v2 : Int32) (v3 : Nat → Int64) (v4 : Nat → Int32) (v5 : Nat → Int32) (v6 : Nat → Int32) (v7 : Nat → Int32) (v10 : Nat → Int32) (v11 : Int32) (v12 : Int32) (v13 : Nat → Int32) (v14 : Int32) (v15 : Nat → Int64) (v16 : Int32) (v17 : Nat → Int64) (v18 : Nat → Int32) (v25 : Nat → Int64) (v26 : Nat → Int32) (v27 : Nat → Int32) (v29 : Nat → Int32) (v30 : Nat) (v31 : Nat) (v32 : Nat → Int64) (v33 : Nat) (v34 : Nat) (v35 : Nat → Int32) (v36 : Nat) (v37 : Nat) (v38 : Nat → Int32) (v39 : Nat → Int32) (v40 : Nat → Int32) (v41 : Nat → Int32) (v42 : Nat → Int32) (v43 : Nat → Int32) (v45 : ZL) {K2681 : Nat → Nat → Int32 → (Nat → Int64) → Prop} (hst : (xl x).stackTraces = false) (hX : sX x ab v46 v47)
    (n : Nat) (v19 : Int32) (v44 : Nat → Int64) (h : P_L_law_L2569 z4 v8 v9 v20 v21 v22 v23 v24 v28 v46 v47 K2681 n rc rs v19 v44)
    (hK2681 : ∀ (k0 n0 rc rs : Nat), k0 + rc ≤ (rm_L_law).cells ∧ n0 + rs ≤ (rm_L_law).slots → ∀ (uv19 : Int32), ∀ (uv44 : Nat → Int64), K2681 rc rs uv19 uv44 → ww x (W_L_law (xg x) a0 a1 a2 a3 a4 a5 a6 a7 a8 a9 a10 a11 a12 a13 a14 a15 a16 a17 a18 a19 a20 a21 a22 a23 a24 a25 a26 a27 a28 a29 a30 a31 a32 a33 a34 a35 a36 a37 a38 a39 ab v0 v1 v2 v3 v4 v5 v6 v7 v8 v9 v10 v11 v12 v13 v14 v15 v16 v17 v18 uv19 v20 v21 v22 v23 v24 v25 v26 v27 v28 v29 v30 v31 v32 v33 v34 v35 v36 v37 v38 v39 v40 v41 v42 v43 uv44 v46 v47 ++ ZP (xg x) a39 v45) [(0, .ref ab), (1, .ref a0), (2, .ref a27), (3, .ref a38), (4, .int z4)] k0 n0 2681 []) :
    ww x (W_L_law (xg x) a0 a1 a2 a3 a4 a5 a6 a7 a8 a9 a10 a11 a12 a13 a14 a15 a16 a17 a18 a19 a20 a21 a22 a23 a24 a25 a26 a27 a28 a29 a30 a31 a32 a33 a34 a35 a36 a37 a38 a39 ab v0 v1 v2 v3 v4 v5 v6 v7 v8 v9 v10 v11 v12 v13 v14 v15 v16 v17 v18 v19 v20 v21 v22 v23 v24 v25 v26 v27 v28 v29 v30 v31 v32 v33 v34 v35 v36 v37 v38 v39 v40 v41 v42 v43 v44 v46 v47 ++ ZP (xg x) a39 v45) [(0, .ref ab), (1, .ref a0), (2, .ref a27), (3, .ref a38), (4, .int z4)] k0 n0 2569 [] := by
  induction n generalizing k0 n0 rc rs v19 v44 with
  | zero => exact h.elim
  | succ n ih =>
    unfold P_L_law_L2569 at h
    refine xw_aload_n hf (pc := 2569) dL_law_2569 rfl 1 rfl ?_
    refine xw_aload_n hf (pc := 2570) dL_law_2570 rfl 0 rfl ?_
    refine xw_iload hf (pc := 2571) dL_law_2571 4 rfl ?_
    refine xw_iconst hf (pc := 2573) dL_law_2573 (v := 1) (by decide) ?_
    refine xw_iadd hf (pc := 2574) dL_law_2574 ?_
    refine xw_sald hf hX dL_law_2575 h.1 ?_
    have h := h.2
    refine xw_aload_n hf (pc := 2576) dL_law_2576 rfl 3 rfl ?_
    obtain ⟨mc862, ms863, ⟨hb1, hb2⟩, h⟩ := h
    refine xw_callSW hf (pc := 2577) (nA := 3) (Xr := [(a1, .inr (2, [.ref a2, .ref a4, .ref a6])), (a2, .inr (7, [.ref a3, .int v0])), (a3, .inl (gJ (xg x), 60, .inr (.inl v1))), (a4, .inr (7, [.ref a5, .int v2])), (a5, .inl (gJ (xg x), 60, .inr (.inl v3))), (a6, .inr (3, [.ref a7])), (a7, .inl (gI (xg x), 32, .inl v4)), (a8, .inr (6, [.ref a9, .ref a11, .ref a12])), (a9, .inr (3, [.ref a10])), (a10, .inl (gI (xg x), 32, .inl v5)), (a11, .inl (gI (xg x), 32, .inl v6)), (a12, .inl (gI (xg x), 32, .inl v7)), (a16, .inr (3, [.ref a17])), (a17, .inl (gI (xg x), 32, .inl v10)), (a18, .inr (4, [.ref a19, .ref a21, .ref a23, .int v11, .int v12])), (a19, .inr (3, [.ref a20])), (a20, .inl (gI (xg x), 32, .inl v13)), (a21, .inr (7, [.ref a22, .int v14])), (a22, .inl (gJ (xg x), 60, .inr (.inl v15))), (a23, .inr (7, [.ref a24, .int v16])), (a24, .inl (gJ (xg x), 60, .inr (.inl v17))), (a25, .inr (3, [.ref a26])), (a26, .inl (gI (xg x), 32, .inl v18)), (a27, .inr (9, [.int v19, .ref a28, .int v20, .ref a29, .ref a30, .ref a31, .ref a32, .ref v30, .ref v33, .ref v36, .int v21, .int v22, .ref a33, .int v23, .ref a34, .ref a35, .ref a36, .ref a37, .int v24])), (a28, .inl (gJ (xg x), 60, .inr (.inl v25))), (a29, .inl (gI (xg x), 27, .inl v26)), (a30, .inl (gI (xg x), 27, .inl v27)), (a31, .inl (gI (xg x), 27, .inl v28)), (a32, .inl (gI (xg x), 27, .inl v29)), (v30, .inl (gJ (xg x), v31, .inr (.inl v32))), (v33, .inl (gI (xg x), v34, .inl v35)), (v36, .inl (gZ (xg x), v37, .inl v38)), (a33, .inl (gI (xg x), 12, .inl v39)), (a34, .inl (gI (xg x), 27, .inl v40)), (a35, .inl (gI (xg x), 27, .inl v41)), (a36, .inl (gI (xg x), 60, .inl v42)), (a37, .inl (gI (xg x), 3, .inl v43))] ++ ZP (xg x) a39 v45) (rest := []) (c_L_cameIn (xl x) (xg x) hst a0 a13 a14 a15 a38 a1 a8 a18 a25 a39 a16 v8 v9 v44 (v47 (z4 + 1).toNatClampNeg) h) gL_law_L_cameIn (by rfl) rfl (by decide +kernel) ⟨⟨(Nat.le_of_ble_eq_true rfl), (Nat.le_of_ble_eq_true rfl)⟩, (Nat.le_trans (show k0 + 1 ≤ k0 + rc by omega) hk.1), (Nat.le_trans (show n0 + 6 ≤ n0 + rs by omega) hk.2)⟩ (Nat.le_of_ble_eq_true rfl) (sb_zr (sb_of [0, 13, 14, 15, 41, 1, 2, 3, 4, 5, 6, 7, 8, 9, 10, 11, 12, 16, 17, 18, 19, 20, 21, 22, 23, 24, 25, 26, 27, 28, 29, 30, 31, 32, 33, 34, 35, 36, 37, 38, 39, 40] rfl rfl)) rfl dL_law_2577 (fun v X1 hp => ?_)
    obtain ⟨r860, w861, rfl, rfl, h⟩ := hp
    have hk : k0 + 1 + mc862 ≤ (rm_L_law).cells ∧ n0 + 6 + ms863 ≤ (rm_L_law).slots := ⟨Nat.le_trans (show k0 + 1 + mc862 ≤ k0 + rc by omega) hk.1, Nat.le_trans (show n0 + 6 + ms863 ≤ n0 + rs by omega) hk.2⟩
    refine xw_X (sb_rz (sb_of [0, 5, 6, 7, 8, 9, 10, 11, 12, 13, 14, 15, 16, 1, 2, 3, 17, 18, 19, 20, 21, 22, 23, 24, 25, 26, 27, 28, 29, 30, 31, 32, 33, 34, 35, 36, 37, 38, 39, 40, 41, 4] rfl rfl)) (show ww x (W_L_law (xg x) a0 a1 a2 a3 a4 a5 a6 a7 a8 a9 a10 a11 a12 a13 a14 a15 a16 a17 a18 a19 a20 a21 a22 a23 a24 a25 a26 a27 a28 a29 a30 a31 a32 a33 a34 a35 a36 a37 a38 a39 ab v0 v1 v2 v3 v4 v5 v6 v7 v8 v9 v10 v11 v12 v13 v14 v15 v16 v17 v18 v19 v20 v21 v22 v23 v24 v25 v26 v27 v28 v29 v30 v31 v32 v33 v34 v35 v36 v37 v38 v39 v40 v41 v42 v43 w861 v46 v47 ++ ZP (xg x) a39 v45) [(0, .ref ab), (1, .ref a0), (2, .ref a27), (3, .ref a38), (4, .int z4)] (k0 + 1) (n0 + 6) 2580 [.int r860] from ?_)
    refine xw_istore hf (pc := 2580) dL_law_2580 [(5, .int r860), (0, .ref ab), (1, .ref a0), (2, .ref a27), (3, .ref a38), (4, .int z4)] hn (by decide) rfl ?_
    refine xw_aload_n hf (pc := 2582) dL_law_2582 rfl 3 rfl ?_
    refine xw_aload_n hf (pc := 2583) dL_law_2583 rfl 1 rfl ?_
    refine xw_iload hf (pc := 2584) dL_law_2584 5 rfl ?_
    refine xw_iconst hf (pc := 2586) dL_law_2586 (v := 1) (by decide) ?_
    refine xw_iadd hf (pc := 2587) dL_law_2587 ?_
    refine xw_sald hf hX dL_law_2588 h.1 ?_
    have h := h.2
    refine xw_callV hf (pc := 2589) (nA := 1) (Xr := [(a0, .inr (8, [.ref a1, .ref a8, .ref a13, .ref a18, .ref a25])), (a1, .inr (2, [.ref a2, .ref a4, .ref a6])), (a2, .inr (7, [.ref a3, .int v0])), (a3, .inl (gJ (xg x), 60, .inr (.inl v1))), (a4, .inr (7, [.ref a5, .int v2])), (a5, .inl (gJ (xg x), 60, .inr (.inl v3))), (a6, .inr (3, [.ref a7])), (a7, .inl (gI (xg x), 32, .inl v4)), (a8, .inr (6, [.ref a9, .ref a11, .ref a12])), (a9, .inr (3, [.ref a10])), (a10, .inl (gI (xg x), 32, .inl v5)), (a11, .inl (gI (xg x), 32, .inl v6)), (a12, .inl (gI (xg x), 32, .inl v7)), (a13, .inr (1, [.ref a39, .ref a14, .ref a16, .int v8])), (a14, .inr (3, [.ref a15])), (a15, .inl (gI (xg x), 32, .inl v9)), (a16, .inr (3, [.ref a17])), (a17, .inl (gI (xg x), 32, .inl v10)), (a18, .inr (4, [.ref a19, .ref a21, .ref a23, .int v11, .int v12])), (a19, .inr (3, [.ref a20])), (a20, .inl (gI (xg x), 32, .inl v13)), (a21, .inr (7, [.ref a22, .int v14])), (a22, .inl (gJ (xg x), 60, .inr (.inl v15))), (a23, .inr (7, [.ref a24, .int v16])), (a24, .inl (gJ (xg x), 60, .inr (.inl v17))), (a25, .inr (3, [.ref a26])), (a26, .inl (gI (xg x), 32, .inl v18)), (a28, .inl (gJ (xg x), 60, .inr (.inl v25))), (a29, .inl (gI (xg x), 27, .inl v26)), (a30, .inl (gI (xg x), 27, .inl v27)), (a32, .inl (gI (xg x), 27, .inl v29)), (v30, .inl (gJ (xg x), v31, .inr (.inl v32))), (v33, .inl (gI (xg x), v34, .inl v35)), (v36, .inl (gZ (xg x), v37, .inl v38)), (a33, .inl (gI (xg x), 12, .inl v39)), (a34, .inl (gI (xg x), 27, .inl v40)), (a35, .inl (gI (xg x), 27, .inl v41)), (a36, .inl (gI (xg x), 60, .inl v42)), (a37, .inl (gI (xg x), 3, .inl v43)), (a38, .inl (gJ (xg x), 1, .inr (.inl w861)))] ++ ZP (xg x) a39 v45) (rest := []) (T := TX9) (c_X9_cameIn (xl x) (xg x) a27 a31 a28 a29 a30 a32 v30 v33 v36 a33 a34 a35 a36 a37 v19 v20 v21 v22 v23 v24 v28 (v47 (z4 + 1).toNatClampNeg) h) gL_law_X9_cameIn (by rfl) rfl rfl (by decide +kernel) ⟨⟨(Nat.le_of_ble_eq_true rfl), (Nat.le_of_ble_eq_true rfl)⟩, (Nat.le_trans (Nat.le_add_right _ _) hk.1), (Nat.le_trans (Nat.le_add_right _ _) hk.2)⟩ (Nat.le_of_ble_eq_true rfl) rfl rfl (sb_zr (sb_of [27, 31, 0, 1, 2, 3, 4, 5, 6, 7, 8, 9, 10, 11, 12, 13, 14, 15, 16, 17, 18, 19, 20, 21, 22, 23, 24, 25, 26, 28, 29, 30, 32, 33, 34, 35, 36, 37, 38, 39, 40, 41] rfl rfl)) rfl dL_law_2589 (fun v X1 hp => ?_)
    obtain ⟨r864, w865, rfl, rfl, h⟩ := hp
    refine xw_X (sb_rz (sb_of [2, 3, 4, 5, 6, 7, 8, 9, 10, 11, 12, 13, 14, 15, 16, 17, 18, 19, 20, 21, 22, 23, 24, 25, 26, 27, 28, 0, 29, 30, 31, 1, 32, 33, 34, 35, 36, 37, 38, 39, 40, 41] rfl rfl)) (show ww x (W_L_law (xg x) a0 a1 a2 a3 a4 a5 a6 a7 a8 a9 a10 a11 a12 a13 a14 a15 a16 a17 a18 a19 a20 a21 a22 a23 a24 a25 a26 a27 a28 a29 a30 a31 a32 a33 a34 a35 a36 a37 a38 a39 ab v0 v1 v2 v3 v4 v5 v6 v7 v8 v9 v10 v11 v12 v13 v14 v15 v16 v17 v18 w865 v20 v21 v22 v23 v24 v25 v26 v27 v28 v29 v30 v31 v32 v33 v34 v35 v36 v37 v38 v39 v40 v41 v42 v43 w861 v46 v47 ++ ZP (xg x) a39 v45) [(5, .int r860), (0, .ref ab), (1, .ref a0), (2, .ref a27), (3, .ref a38), (4, .int z4)] (k0 + 1) (n0 + 6) 2592 [.int r864] from ?_)
    refine xw_istore hf (pc := 2592) dL_law_2592 [(6, .int r864), (5, .int r860), (0, .ref ab), (1, .ref a0), (2, .ref a27), (3, .ref a38), (4, .int z4)] hn (by decide) rfl ?_
    refine xw_aload_n hf (pc := 2594) dL_law_2594 rfl 4 rfl ?_
    refine xw_callV hf (pc := 2595) (nA := 0) (Xr := [(a0, .inr (8, [.ref a1, .ref a8, .ref a13, .ref a18, .ref a25])), (a1, .inr (2, [.ref a2, .ref a4, .ref a6])), (a2, .inr (7, [.ref a3, .int v0])), (a3, .inl (gJ (xg x), 60, .inr (.inl v1))), (a4, .inr (7, [.ref a5, .int v2])), (a5, .inl (gJ (xg x), 60, .inr (.inl v3))), (a6, .inr (3, [.ref a7])), (a7, .inl (gI (xg x), 32, .inl v4)), (a8, .inr (6, [.ref a9, .ref a11, .ref a12])), (a9, .inr (3, [.ref a10])), (a10, .inl (gI (xg x), 32, .inl v5)), (a11, .inl (gI (xg x), 32, .inl v6)), (a12, .inl (gI (xg x), 32, .inl v7)), (a13, .inr (1, [.ref a39, .ref a14, .ref a16, .int v8])), (a14, .inr (3, [.ref a15])), (a15, .inl (gI (xg x), 32, .inl v9)), (a16, .inr (3, [.ref a17])), (a17, .inl (gI (xg x), 32, .inl v10)), (a18, .inr (4, [.ref a19, .ref a21, .ref a23, .int v11, .int v12])), (a19, .inr (3, [.ref a20])), (a20, .inl (gI (xg x), 32, .inl v13)), (a21, .inr (7, [.ref a22, .int v14])), (a22, .inl (gJ (xg x), 60, .inr (.inl v15))), (a23, .inr (7, [.ref a24, .int v16])), (a24, .inl (gJ (xg x), 60, .inr (.inl v17))), (a25, .inr (3, [.ref a26])), (a26, .inl (gI (xg x), 32, .inl v18)), (a28, .inl (gJ (xg x), 60, .inr (.inl v25))), (a29, .inl (gI (xg x), 27, .inl v26)), (a30, .inl (gI (xg x), 27, .inl v27)), (a31, .inl (gI (xg x), 27, .inl v28)), (a32, .inl (gI (xg x), 27, .inl v29)), (v30, .inl (gJ (xg x), v31, .inr (.inl v32))), (v33, .inl (gI (xg x), v34, .inl v35)), (v36, .inl (gZ (xg x), v37, .inl v38)), (a33, .inl (gI (xg x), 12, .inl v39)), (a34, .inl (gI (xg x), 27, .inl v40)), (a35, .inl (gI (xg x), 27, .inl v41)), (a36, .inl (gI (xg x), 60, .inl v42)), (a37, .inl (gI (xg x), 3, .inl v43)), (a38, .inl (gJ (xg x), 1, .inr (.inl w861)))] ++ ZP (xg x) a39 v45) (rest := []) (T := TX9) (c_X9_thrown (xl x) (xg x) a27 a28 a29 a30 a31 a32 v30 v33 v36 a33 a34 a35 a36 a37 w865 v20 v21 v22 v23 v24 h) gL_law_X9_thrown (by rfl) rfl rfl (by decide +kernel) ⟨⟨(Nat.le_of_ble_eq_true rfl), (Nat.le_of_ble_eq_true rfl)⟩, (Nat.le_trans (Nat.le_add_right _ _) hk.1), (Nat.le_trans (Nat.le_add_right _ _) hk.2)⟩ (Nat.le_of_ble_eq_true rfl) rfl rfl (sb_zr (sb_of [27, 0, 1, 2, 3, 4, 5, 6, 7, 8, 9, 10, 11, 12, 13, 14, 15, 16, 17, 18, 19, 20, 21, 22, 23, 24, 25, 26, 28, 29, 30, 31, 32, 33, 34, 35, 36, 37, 38, 39, 40, 41] rfl rfl)) rfl dL_law_2595 (fun v X1 hp => ?_)
    obtain ⟨r866, rfl, rfl, h⟩ := hp
    refine xw_X (sb_rz (sb_of [1, 2, 3, 4, 5, 6, 7, 8, 9, 10, 11, 12, 13, 14, 15, 16, 17, 18, 19, 20, 21, 22, 23, 24, 25, 26, 27, 0, 28, 29, 30, 31, 32, 33, 34, 35, 36, 37, 38, 39, 40, 41] rfl rfl)) (show ww x (W_L_law (xg x) a0 a1 a2 a3 a4 a5 a6 a7 a8 a9 a10 a11 a12 a13 a14 a15 a16 a17 a18 a19 a20 a21 a22 a23 a24 a25 a26 a27 a28 a29 a30 a31 a32 a33 a34 a35 a36 a37 a38 a39 ab v0 v1 v2 v3 v4 v5 v6 v7 v8 v9 v10 v11 v12 v13 v14 v15 v16 v17 v18 w865 v20 v21 v22 v23 v24 v25 v26 v27 v28 v29 v30 v31 v32 v33 v34 v35 v36 v37 v38 v39 v40 v41 v42 v43 w861 v46 v47 ++ ZP (xg x) a39 v45) [(6, .int r864), (5, .int r860), (0, .ref ab), (1, .ref a0), (2, .ref a27), (3, .ref a38), (4, .int z4)] (k0 + 1) (n0 + 6) 2598 [.int r866] from ?_)
    refine xw_iload hf (pc := 2598) dL_law_2598 1 rfl ?_
    refine xw_icmp_eq hf (pc := 2600) dL_law_2600 (tgt := 2605) rfl ⟨fun c => ?_, fun c => ?_⟩
    · have h := h.1 c
      refine xw_iload hf (pc := 2605) dL_law_2605 1 rfl ?_
      refine xw_if_ne hf (pc := 2607) dL_law_2607 (c := r860 = 0) Iff.rfl (tgt := 2622) rfl ⟨fun c => ?_, fun c => ?_⟩
      · have h := h.1 c
        refine xw_aload_n hf (pc := 2610) dL_law_2610 rfl 5 rfl ?_
        refine xw_iconst hf (pc := 2611) dL_law_2611 (v := 0) (by decide) ?_
        refine xw_lald hf (pc := 2612) dL_law_2612 41 rfl h.1 ?_
        have h := h.2
        refine xw_iload hf (pc := 2613) dL_law_2613 0 rfl ?_
        refine xw_i2l hf (pc := 2615) dL_law_2615 ?_
        refine xw_lcmp hf (pc := 2616) dL_law_2616 ?_
        refine xw_if_eq hf (pc := 2617) dL_law_2617 (c := (w861 (0 : Int32).toNatClampNeg) = r864.toInt64) (lc_eq _ _) (tgt := 2622) rfl ⟨fun c => ?_, fun c => ?_⟩
        · have h := h.1 c
          refine xw_goto hf (pc := 2622) dL_law_2622 (tgt := 2681) rfl ?_
          refine xw_L [2, 3, 4, 5, 6] rfl ?_
          exact hK2681 _ _ _ _ hk _ _ h
        · have h := h.2 c
          refine xw_iconst hf (pc := 2620) dL_law_2620 (v := 0) (by decide) ?_
          exact h.elim
      · have h := h.2 c
        refine xw_goto hf (pc := 2622) dL_law_2622 (tgt := 2681) rfl ?_
        refine xw_L [2, 3, 4, 5, 6] rfl ?_
        exact hK2681 _ _ _ _ hk _ _ h
    · have h := h.2 c
      refine xw_iconst hf (pc := 2603) dL_law_2603 (v := 0) (by decide) ?_
      exact h.elim
set_option maxHeartbeats 4000000 in
set_option maxRecDepth 100000 in
theorem w_L_law_L2625 {x : Cx} {mc ms : Nat} (hf : fx x (rm_L_law) RL cL_law wsL_law) (hn : xn x = 8) {k0 n0 rc rs : Nat} (hk : k0 + rc ≤ (rm_L_law).cells ∧ n0 + rs ≤ (rm_L_law).slots) (a0 a1 a2 a3 a4 a5 a6 a7 a8 a9 a10 a11 a12 a13 a14 a15 a16 a17 a18 a19 a20 a21 a22 a23 a24 a25 a26 a27 a28 a29 a30 a31 a32 a33 a34 a35 a36 a37 a38 a39 ab : Nat) (z4 : Int32) (v8 : Int32) (v10 : Nat → Int32) (v20 : Int32) (v21 : Int32) (v22 : Int32) (v23 : Int32) (v24 : Int32) (v29 : Nat → Int32) (v46 : Nat) (v47 : Nat → Int32) (v0 : Int32) (v1 : Nat → Int64) (v2 : Int32) (v3 : Nat → Int64) (v4 : Nat → Int32) (v5 : Nat → Int32) (v6 : Nat → Int32) (v7 : Nat → Int32) (v9 : Nat → Int32) (v11 : Int32) (v12 : Int32) (v13 : Nat → Int32) (v14 : Int32) (v15 : Nat → Int64) (v16 : Int32) (v17 : Nat → Int64) (v18 : Nat → Int32) (v25 : Nat → Int64) (v26 : Nat → Int32) (v27 : Nat → Int32) (v28 : Nat → Int32) (v30 : Nat) (v31 : Nat) (v32 : Nat → Int64) (v33 : Nat) (v34 : Nat) (v35 : Nat → Int32) (v36 : Nat) (v37 : Nat) (v38 : Nat → Int32) (v39 : Nat → Int32) (v40 : Nat → Int32) (v41 : Nat → Int32) (v42 : Nat → Int32) (v43 : Nat → Int32) (v45 : ZL) {K2681 : Nat → Nat → Int32 → (Nat → Int64) → Prop} (hst : (xl x).stackTraces = false) (hX : sX x ab v46 v47)
    (n : Nat) (v19 : Int32) (v44 : Nat → Int64) (h : P_L_law_L2625 z4 v8 v10 v20 v21 v22 v23 v24 v29 v46 v47 K2681 n rc rs v19 v44)
    (hK2681 : ∀ (k0 n0 rc rs : Nat), k0 + rc ≤ (rm_L_law).cells ∧ n0 + rs ≤ (rm_L_law).slots → ∀ (uv19 : Int32), ∀ (uv44 : Nat → Int64), K2681 rc rs uv19 uv44 → ww x (W_L_law (xg x) a0 a1 a2 a3 a4 a5 a6 a7 a8 a9 a10 a11 a12 a13 a14 a15 a16 a17 a18 a19 a20 a21 a22 a23 a24 a25 a26 a27 a28 a29 a30 a31 a32 a33 a34 a35 a36 a37 a38 a39 ab v0 v1 v2 v3 v4 v5 v6 v7 v8 v9 v10 v11 v12 v13 v14 v15 v16 v17 v18 uv19 v20 v21 v22 v23 v24 v25 v26 v27 v28 v29 v30 v31 v32 v33 v34 v35 v36 v37 v38 v39 v40 v41 v42 v43 uv44 v46 v47 ++ ZP (xg x) a39 v45) [(0, .ref ab), (1, .ref a0), (2, .ref a27), (3, .ref a38), (4, .int z4)] k0 n0 2681 []) :
    ww x (W_L_law (xg x) a0 a1 a2 a3 a4 a5 a6 a7 a8 a9 a10 a11 a12 a13 a14 a15 a16 a17 a18 a19 a20 a21 a22 a23 a24 a25 a26 a27 a28 a29 a30 a31 a32 a33 a34 a35 a36 a37 a38 a39 ab v0 v1 v2 v3 v4 v5 v6 v7 v8 v9 v10 v11 v12 v13 v14 v15 v16 v17 v18 v19 v20 v21 v22 v23 v24 v25 v26 v27 v28 v29 v30 v31 v32 v33 v34 v35 v36 v37 v38 v39 v40 v41 v42 v43 v44 v46 v47 ++ ZP (xg x) a39 v45) [(0, .ref ab), (1, .ref a0), (2, .ref a27), (3, .ref a38), (4, .int z4)] k0 n0 2625 [] := by
  induction n generalizing k0 n0 rc rs v19 v44 with
  | zero => exact h.elim
  | succ n ih =>
    unfold P_L_law_L2625 at h
    refine xw_aload_n hf (pc := 2625) dL_law_2625 rfl 1 rfl ?_
    refine xw_aload_n hf (pc := 2626) dL_law_2626 rfl 0 rfl ?_
    refine xw_iload hf (pc := 2627) dL_law_2627 4 rfl ?_
    refine xw_iconst hf (pc := 2629) dL_law_2629 (v := 1) (by decide) ?_
    refine xw_iadd hf (pc := 2630) dL_law_2630 ?_
    refine xw_sald hf hX dL_law_2631 h.1 ?_
    have h := h.2
    refine xw_aload_n hf (pc := 2632) dL_law_2632 rfl 3 rfl ?_
    obtain ⟨mc875, ms876, ⟨hb1, hb2⟩, h⟩ := h
    refine xw_callSW hf (pc := 2633) (nA := 3) (Xr := [(a1, .inr (2, [.ref a2, .ref a4, .ref a6])), (a2, .inr (7, [.ref a3, .int v0])), (a3, .inl (gJ (xg x), 60, .inr (.inl v1))), (a4, .inr (7, [.ref a5, .int v2])), (a5, .inl (gJ (xg x), 60, .inr (.inl v3))), (a6, .inr (3, [.ref a7])), (a7, .inl (gI (xg x), 32, .inl v4)), (a8, .inr (6, [.ref a9, .ref a11, .ref a12])), (a9, .inr (3, [.ref a10])), (a10, .inl (gI (xg x), 32, .inl v5)), (a11, .inl (gI (xg x), 32, .inl v6)), (a12, .inl (gI (xg x), 32, .inl v7)), (a14, .inr (3, [.ref a15])), (a15, .inl (gI (xg x), 32, .inl v9)), (a18, .inr (4, [.ref a19, .ref a21, .ref a23, .int v11, .int v12])), (a19, .inr (3, [.ref a20])), (a20, .inl (gI (xg x), 32, .inl v13)), (a21, .inr (7, [.ref a22, .int v14])), (a22, .inl (gJ (xg x), 60, .inr (.inl v15))), (a23, .inr (7, [.ref a24, .int v16])), (a24, .inl (gJ (xg x), 60, .inr (.inl v17))), (a25, .inr (3, [.ref a26])), (a26, .inl (gI (xg x), 32, .inl v18)), (a27, .inr (9, [.int v19, .ref a28, .int v20, .ref a29, .ref a30, .ref a31, .ref a32, .ref v30, .ref v33, .ref v36, .int v21, .int v22, .ref a33, .int v23, .ref a34, .ref a35, .ref a36, .ref a37, .int v24])), (a28, .inl (gJ (xg x), 60, .inr (.inl v25))), (a29, .inl (gI (xg x), 27, .inl v26)), (a30, .inl (gI (xg x), 27, .inl v27)), (a31, .inl (gI (xg x), 27, .inl v28)), (a32, .inl (gI (xg x), 27, .inl v29)), (v30, .inl (gJ (xg x), v31, .inr (.inl v32))), (v33, .inl (gI (xg x), v34, .inl v35)), (v36, .inl (gZ (xg x), v37, .inl v38)), (a33, .inl (gI (xg x), 12, .inl v39)), (a34, .inl (gI (xg x), 27, .inl v40)), (a35, .inl (gI (xg x), 27, .inl v41)), (a36, .inl (gI (xg x), 60, .inl v42)), (a37, .inl (gI (xg x), 3, .inl v43))] ++ ZP (xg x) a39 v45) (rest := []) (c_L_soldPieces (xl x) (xg x) hst a0 a13 a16 a17 a38 a1 a8 a18 a25 a39 a14 v8 v10 v44 (v47 (z4 + 1).toNatClampNeg) h) gL_law_L_soldPieces (by rfl) rfl (by decide +kernel) ⟨⟨(Nat.le_of_ble_eq_true rfl), (Nat.le_of_ble_eq_true rfl)⟩, (Nat.le_trans (show k0 + 1 ≤ k0 + rc by omega) hk.1), (Nat.le_trans (show n0 + 6 ≤ n0 + rs by omega) hk.2)⟩ (Nat.le_of_ble_eq_true rfl) (sb_zr (sb_of [0, 13, 16, 17, 41, 1, 2, 3, 4, 5, 6, 7, 8, 9, 10, 11, 12, 14, 15, 18, 19, 20, 21, 22, 23, 24, 25, 26, 27, 28, 29, 30, 31, 32, 33, 34, 35, 36, 37, 38, 39, 40] rfl rfl)) rfl dL_law_2633 (fun v X1 hp => ?_)
    obtain ⟨r873, w874, rfl, rfl, h⟩ := hp
    have hk : k0 + 1 + mc875 ≤ (rm_L_law).cells ∧ n0 + 6 + ms876 ≤ (rm_L_law).slots := ⟨Nat.le_trans (show k0 + 1 + mc875 ≤ k0 + rc by omega) hk.1, Nat.le_trans (show n0 + 6 + ms876 ≤ n0 + rs by omega) hk.2⟩
    refine xw_X (sb_rz (sb_of [0, 5, 6, 7, 8, 9, 10, 11, 12, 13, 14, 15, 16, 1, 17, 18, 2, 3, 19, 20, 21, 22, 23, 24, 25, 26, 27, 28, 29, 30, 31, 32, 33, 34, 35, 36, 37, 38, 39, 40, 41, 4] rfl rfl)) (show ww x (W_L_law (xg x) a0 a1 a2 a3 a4 a5 a6 a7 a8 a9 a10 a11 a12 a13 a14 a15 a16 a17 a18 a19 a20 a21 a22 a23 a24 a25 a26 a27 a28 a29 a30 a31 a32 a33 a34 a35 a36 a37 a38 a39 ab v0 v1 v2 v3 v4 v5 v6 v7 v8 v9 v10 v11 v12 v13 v14 v15 v16 v17 v18 v19 v20 v21 v22 v23 v24 v25 v26 v27 v28 v29 v30 v31 v32 v33 v34 v35 v36 v37 v38 v39 v40 v41 v42 v43 w874 v46 v47 ++ ZP (xg x) a39 v45) [(0, .ref ab), (1, .ref a0), (2, .ref a27), (3, .ref a38), (4, .int z4)] (k0 + 1) (n0 + 6) 2636 [.int r873] from ?_)
    refine xw_istore hf (pc := 2636) dL_law_2636 [(5, .int r873), (0, .ref ab), (1, .ref a0), (2, .ref a27), (3, .ref a38), (4, .int z4)] hn (by decide) rfl ?_
    refine xw_aload_n hf (pc := 2638) dL_law_2638 rfl 3 rfl ?_
    refine xw_aload_n hf (pc := 2639) dL_law_2639 rfl 1 rfl ?_
    refine xw_iload hf (pc := 2640) dL_law_2640 5 rfl ?_
    refine xw_iconst hf (pc := 2642) dL_law_2642 (v := 1) (by decide) ?_
    refine xw_iadd hf (pc := 2643) dL_law_2643 ?_
    refine xw_sald hf hX dL_law_2644 h.1 ?_
    have h := h.2
    refine xw_callV hf (pc := 2645) (nA := 1) (Xr := [(a0, .inr (8, [.ref a1, .ref a8, .ref a13, .ref a18, .ref a25])), (a1, .inr (2, [.ref a2, .ref a4, .ref a6])), (a2, .inr (7, [.ref a3, .int v0])), (a3, .inl (gJ (xg x), 60, .inr (.inl v1))), (a4, .inr (7, [.ref a5, .int v2])), (a5, .inl (gJ (xg x), 60, .inr (.inl v3))), (a6, .inr (3, [.ref a7])), (a7, .inl (gI (xg x), 32, .inl v4)), (a8, .inr (6, [.ref a9, .ref a11, .ref a12])), (a9, .inr (3, [.ref a10])), (a10, .inl (gI (xg x), 32, .inl v5)), (a11, .inl (gI (xg x), 32, .inl v6)), (a12, .inl (gI (xg x), 32, .inl v7)), (a13, .inr (1, [.ref a39, .ref a14, .ref a16, .int v8])), (a14, .inr (3, [.ref a15])), (a15, .inl (gI (xg x), 32, .inl v9)), (a16, .inr (3, [.ref a17])), (a17, .inl (gI (xg x), 32, .inl v10)), (a18, .inr (4, [.ref a19, .ref a21, .ref a23, .int v11, .int v12])), (a19, .inr (3, [.ref a20])), (a20, .inl (gI (xg x), 32, .inl v13)), (a21, .inr (7, [.ref a22, .int v14])), (a22, .inl (gJ (xg x), 60, .inr (.inl v15))), (a23, .inr (7, [.ref a24, .int v16])), (a24, .inl (gJ (xg x), 60, .inr (.inl v17))), (a25, .inr (3, [.ref a26])), (a26, .inl (gI (xg x), 32, .inl v18)), (a28, .inl (gJ (xg x), 60, .inr (.inl v25))), (a29, .inl (gI (xg x), 27, .inl v26)), (a30, .inl (gI (xg x), 27, .inl v27)), (a31, .inl (gI (xg x), 27, .inl v28)), (v30, .inl (gJ (xg x), v31, .inr (.inl v32))), (v33, .inl (gI (xg x), v34, .inl v35)), (v36, .inl (gZ (xg x), v37, .inl v38)), (a33, .inl (gI (xg x), 12, .inl v39)), (a34, .inl (gI (xg x), 27, .inl v40)), (a35, .inl (gI (xg x), 27, .inl v41)), (a36, .inl (gI (xg x), 60, .inl v42)), (a37, .inl (gI (xg x), 3, .inl v43)), (a38, .inl (gJ (xg x), 1, .inr (.inl w874)))] ++ ZP (xg x) a39 v45) (rest := []) (T := TX9) (c_X9_soldPieces (xl x) (xg x) a27 a32 a28 a29 a30 a31 v30 v33 v36 a33 a34 a35 a36 a37 v19 v20 v21 v22 v23 v24 v29 (v47 (z4 + 1).toNatClampNeg) h) gL_law_X9_soldPieces (by rfl) rfl rfl (by decide +kernel) ⟨⟨(Nat.le_of_ble_eq_true rfl), (Nat.le_of_ble_eq_true rfl)⟩, (Nat.le_trans (Nat.le_add_right _ _) hk.1), (Nat.le_trans (Nat.le_add_right _ _) hk.2)⟩ (Nat.le_of_ble_eq_true rfl) rfl rfl (sb_zr (sb_of [27, 32, 0, 1, 2, 3, 4, 5, 6, 7, 8, 9, 10, 11, 12, 13, 14, 15, 16, 17, 18, 19, 20, 21, 22, 23, 24, 25, 26, 28, 29, 30, 31, 33, 34, 35, 36, 37, 38, 39, 40, 41] rfl rfl)) rfl dL_law_2645 (fun v X1 hp => ?_)
    obtain ⟨r877, w878, rfl, rfl, h⟩ := hp
    refine xw_X (sb_rz (sb_of [2, 3, 4, 5, 6, 7, 8, 9, 10, 11, 12, 13, 14, 15, 16, 17, 18, 19, 20, 21, 22, 23, 24, 25, 26, 27, 28, 0, 29, 30, 31, 32, 1, 33, 34, 35, 36, 37, 38, 39, 40, 41] rfl rfl)) (show ww x (W_L_law (xg x) a0 a1 a2 a3 a4 a5 a6 a7 a8 a9 a10 a11 a12 a13 a14 a15 a16 a17 a18 a19 a20 a21 a22 a23 a24 a25 a26 a27 a28 a29 a30 a31 a32 a33 a34 a35 a36 a37 a38 a39 ab v0 v1 v2 v3 v4 v5 v6 v7 v8 v9 v10 v11 v12 v13 v14 v15 v16 v17 v18 w878 v20 v21 v22 v23 v24 v25 v26 v27 v28 v29 v30 v31 v32 v33 v34 v35 v36 v37 v38 v39 v40 v41 v42 v43 w874 v46 v47 ++ ZP (xg x) a39 v45) [(5, .int r873), (0, .ref ab), (1, .ref a0), (2, .ref a27), (3, .ref a38), (4, .int z4)] (k0 + 1) (n0 + 6) 2648 [.int r877] from ?_)
    refine xw_istore hf (pc := 2648) dL_law_2648 [(6, .int r877), (5, .int r873), (0, .ref ab), (1, .ref a0), (2, .ref a27), (3, .ref a38), (4, .int z4)] hn (by decide) rfl ?_
    refine xw_aload_n hf (pc := 2650) dL_law_2650 rfl 4 rfl ?_
    refine xw_callV hf (pc := 2651) (nA := 0) (Xr := [(a0, .inr (8, [.ref a1, .ref a8, .ref a13, .ref a18, .ref a25])), (a1, .inr (2, [.ref a2, .ref a4, .ref a6])), (a2, .inr (7, [.ref a3, .int v0])), (a3, .inl (gJ (xg x), 60, .inr (.inl v1))), (a4, .inr (7, [.ref a5, .int v2])), (a5, .inl (gJ (xg x), 60, .inr (.inl v3))), (a6, .inr (3, [.ref a7])), (a7, .inl (gI (xg x), 32, .inl v4)), (a8, .inr (6, [.ref a9, .ref a11, .ref a12])), (a9, .inr (3, [.ref a10])), (a10, .inl (gI (xg x), 32, .inl v5)), (a11, .inl (gI (xg x), 32, .inl v6)), (a12, .inl (gI (xg x), 32, .inl v7)), (a13, .inr (1, [.ref a39, .ref a14, .ref a16, .int v8])), (a14, .inr (3, [.ref a15])), (a15, .inl (gI (xg x), 32, .inl v9)), (a16, .inr (3, [.ref a17])), (a17, .inl (gI (xg x), 32, .inl v10)), (a18, .inr (4, [.ref a19, .ref a21, .ref a23, .int v11, .int v12])), (a19, .inr (3, [.ref a20])), (a20, .inl (gI (xg x), 32, .inl v13)), (a21, .inr (7, [.ref a22, .int v14])), (a22, .inl (gJ (xg x), 60, .inr (.inl v15))), (a23, .inr (7, [.ref a24, .int v16])), (a24, .inl (gJ (xg x), 60, .inr (.inl v17))), (a25, .inr (3, [.ref a26])), (a26, .inl (gI (xg x), 32, .inl v18)), (a28, .inl (gJ (xg x), 60, .inr (.inl v25))), (a29, .inl (gI (xg x), 27, .inl v26)), (a30, .inl (gI (xg x), 27, .inl v27)), (a31, .inl (gI (xg x), 27, .inl v28)), (a32, .inl (gI (xg x), 27, .inl v29)), (v30, .inl (gJ (xg x), v31, .inr (.inl v32))), (v33, .inl (gI (xg x), v34, .inl v35)), (v36, .inl (gZ (xg x), v37, .inl v38)), (a33, .inl (gI (xg x), 12, .inl v39)), (a34, .inl (gI (xg x), 27, .inl v40)), (a35, .inl (gI (xg x), 27, .inl v41)), (a36, .inl (gI (xg x), 60, .inl v42)), (a37, .inl (gI (xg x), 3, .inl v43)), (a38, .inl (gJ (xg x), 1, .inr (.inl w874)))] ++ ZP (xg x) a39 v45) (rest := []) (T := TX9) (c_X9_thrown (xl x) (xg x) a27 a28 a29 a30 a31 a32 v30 v33 v36 a33 a34 a35 a36 a37 w878 v20 v21 v22 v23 v24 h) gL_law_X9_thrown (by rfl) rfl rfl (by decide +kernel) ⟨⟨(Nat.le_of_ble_eq_true rfl), (Nat.le_of_ble_eq_true rfl)⟩, (Nat.le_trans (Nat.le_add_right _ _) hk.1), (Nat.le_trans (Nat.le_add_right _ _) hk.2)⟩ (Nat.le_of_ble_eq_true rfl) rfl rfl (sb_zr (sb_of [27, 0, 1, 2, 3, 4, 5, 6, 7, 8, 9, 10, 11, 12, 13, 14, 15, 16, 17, 18, 19, 20, 21, 22, 23, 24, 25, 26, 28, 29, 30, 31, 32, 33, 34, 35, 36, 37, 38, 39, 40, 41] rfl rfl)) rfl dL_law_2651 (fun v X1 hp => ?_)
    obtain ⟨r879, rfl, rfl, h⟩ := hp
    refine xw_X (sb_rz (sb_of [1, 2, 3, 4, 5, 6, 7, 8, 9, 10, 11, 12, 13, 14, 15, 16, 17, 18, 19, 20, 21, 22, 23, 24, 25, 26, 27, 0, 28, 29, 30, 31, 32, 33, 34, 35, 36, 37, 38, 39, 40, 41] rfl rfl)) (show ww x (W_L_law (xg x) a0 a1 a2 a3 a4 a5 a6 a7 a8 a9 a10 a11 a12 a13 a14 a15 a16 a17 a18 a19 a20 a21 a22 a23 a24 a25 a26 a27 a28 a29 a30 a31 a32 a33 a34 a35 a36 a37 a38 a39 ab v0 v1 v2 v3 v4 v5 v6 v7 v8 v9 v10 v11 v12 v13 v14 v15 v16 v17 v18 w878 v20 v21 v22 v23 v24 v25 v26 v27 v28 v29 v30 v31 v32 v33 v34 v35 v36 v37 v38 v39 v40 v41 v42 v43 w874 v46 v47 ++ ZP (xg x) a39 v45) [(6, .int r877), (5, .int r873), (0, .ref ab), (1, .ref a0), (2, .ref a27), (3, .ref a38), (4, .int z4)] (k0 + 1) (n0 + 6) 2654 [.int r879] from ?_)
    refine xw_iload hf (pc := 2654) dL_law_2654 1 rfl ?_
    refine xw_icmp_eq hf (pc := 2656) dL_law_2656 (tgt := 2661) rfl ⟨fun c => ?_, fun c => ?_⟩
    · have h := h.1 c
      refine xw_iload hf (pc := 2661) dL_law_2661 1 rfl ?_
      refine xw_if_ne hf (pc := 2663) dL_law_2663 (c := r873 = 0) Iff.rfl (tgt := 2678) rfl ⟨fun c => ?_, fun c => ?_⟩
      · have h := h.1 c
        refine xw_aload_n hf (pc := 2666) dL_law_2666 rfl 5 rfl ?_
        refine xw_iconst hf (pc := 2667) dL_law_2667 (v := 0) (by decide) ?_
        refine xw_lald hf (pc := 2668) dL_law_2668 41 rfl h.1 ?_
        have h := h.2
        refine xw_iload hf (pc := 2669) dL_law_2669 0 rfl ?_
        refine xw_i2l hf (pc := 2671) dL_law_2671 ?_
        refine xw_lcmp hf (pc := 2672) dL_law_2672 ?_
        refine xw_if_eq hf (pc := 2673) dL_law_2673 (c := (w874 (0 : Int32).toNatClampNeg) = r877.toInt64) (lc_eq _ _) (tgt := 2678) rfl ⟨fun c => ?_, fun c => ?_⟩
        · have h := h.1 c
          refine xw_goto hf (pc := 2678) dL_law_2678 (tgt := 2681) rfl ?_
          refine xw_L [2, 3, 4, 5, 6] rfl ?_
          exact hK2681 _ _ _ _ hk _ _ h
        · have h := h.2 c
          refine xw_iconst hf (pc := 2676) dL_law_2676 (v := 0) (by decide) ?_
          exact h.elim
      · have h := h.2 c
        refine xw_goto hf (pc := 2678) dL_law_2678 (tgt := 2681) rfl ?_
        refine xw_L [2, 3, 4, 5, 6] rfl ?_
        exact hK2681 _ _ _ _ hk _ _ h
    · have h := h.2 c
      refine xw_iconst hf (pc := 2659) dL_law_2659 (v := 0) (by decide) ?_
      exact h.elim
set_option maxHeartbeats 4000000 in
set_option maxRecDepth 100000 in
theorem w_L_law_L23 {x : Cx} {mc ms : Nat} (hf : fx x (rm_L_law) RL cL_law wsL_law) (hn : xn x = 8) {k0 n0 rc rs : Nat} (hk : k0 + rc ≤ (rm_L_law).cells ∧ n0 + rs ≤ (rm_L_law).slots) (a0 a1 a2 a3 a4 a5 a6 a7 a8 a9 a10 a11 a12 a13 a14 a15 a16 a17 a18 a19 a20 a21 a22 a23 a24 a25 a26 a27 a28 a29 a30 a31 a32 a33 a34 a35 a36 a37 a38 a39 ab : Nat) (v7 : Nat → Int32) (v46 : Nat) (v47 : Nat → Int32) {K2687 : Nat → Nat → Int32 → (Nat → Int64) → Int32 → (Nat → Int64) → (Nat → Int32) → (Nat → Int32) → (Nat → Int32) → Int32 → (Nat → Int32) → (Nat → Int32) → Int32 → Int32 → (Nat → Int32) → Int32 → (Nat → Int64) → Int32 → (Nat → Int64) → (Nat → Int32) → Int32 → Int32 → Int32 → Int32 → Int32 → Int32 → (Nat → Int64) → (Nat → Int32) → (Nat → Int32) → (Nat → Int32) → (Nat → Int32) → Nat → Nat → (Nat → Int64) → Nat → Nat → (Nat → Int32) → Nat → Nat → (Nat → Int32) → (Nat → Int32) → (Nat → Int32) → (Nat → Int32) → (Nat → Int32) → (Nat → Int32) → (Nat → Int64) → ZL → Prop} (hst : (xl x).stackTraces = false) (hX : sX x ab v46 v47)
    (n : Nat) (z4 : Int32) (v0 : Int32) (v1 : Nat → Int64) (v2 : Int32) (v3 : Nat → Int64) (v4 : Nat → Int32) (v5 : Nat → Int32) (v6 : Nat → Int32) (v8 : Int32) (v9 : Nat → Int32) (v10 : Nat → Int32) (v11 : Int32) (v12 : Int32) (v13 : Nat → Int32) (v14 : Int32) (v15 : Nat → Int64) (v16 : Int32) (v17 : Nat → Int64) (v18 : Nat → Int32) (v19 : Int32) (v20 : Int32) (v21 : Int32) (v22 : Int32) (v23 : Int32) (v24 : Int32) (v25 : Nat → Int64) (v26 : Nat → Int32) (v27 : Nat → Int32) (v28 : Nat → Int32) (v29 : Nat → Int32) (v30 : Nat) (v31 : Nat) (v32 : Nat → Int64) (v33 : Nat) (v34 : Nat) (v35 : Nat → Int32) (v36 : Nat) (v37 : Nat) (v38 : Nat → Int32) (v39 : Nat → Int32) (v40 : Nat → Int32) (v41 : Nat → Int32) (v42 : Nat → Int32) (v43 : Nat → Int32) (v44 : Nat → Int64) (v45 : ZL) (h : P_L_law_L23 v7 v46 v47 K2687 n rc rs z4 v0 v1 v2 v3 v4 v5 v6 v8 v9 v10 v11 v12 v13 v14 v15 v16 v17 v18 v19 v20 v21 v22 v23 v24 v25 v26 v27 v28 v29 v30 v31 v32 v33 v34 v35 v36 v37 v38 v39 v40 v41 v42 v43 v44 v45)
    (hK2687 : ∀ (k0 n0 rc rs : Nat), k0 + rc ≤ (rm_L_law).cells ∧ n0 + rs ≤ (rm_L_law).slots → ∀ (uv0 : Int32), ∀ (uv1 : Nat → Int64), ∀ (uv2 : Int32), ∀ (uv3 : Nat → Int64), ∀ (uv4 : Nat → Int32), ∀ (uv5 : Nat → Int32), ∀ (uv6 : Nat → Int32), ∀ (uv8 : Int32), ∀ (uv9 : Nat → Int32), ∀ (uv10 : Nat → Int32), ∀ (uv11 : Int32), ∀ (uv12 : Int32), ∀ (uv13 : Nat → Int32), ∀ (uv14 : Int32), ∀ (uv15 : Nat → Int64), ∀ (uv16 : Int32), ∀ (uv17 : Nat → Int64), ∀ (uv18 : Nat → Int32), ∀ (uv19 : Int32), ∀ (uv20 : Int32), ∀ (uv21 : Int32), ∀ (uv22 : Int32), ∀ (uv23 : Int32), ∀ (uv24 : Int32), ∀ (uv25 : Nat → Int64), ∀ (uv26 : Nat → Int32), ∀ (uv27 : Nat → Int32), ∀ (uv28 : Nat → Int32), ∀ (uv29 : Nat → Int32), ∀ (uv30 : Nat), ∀ (uv31 : Nat), ∀ (uv32 : Nat → Int64), ∀ (uv33 : Nat), ∀ (uv34 : Nat), ∀ (uv35 : Nat → Int32), ∀ (uv36 : Nat), ∀ (uv37 : Nat), ∀ (uv38 : Nat → Int32), ∀ (uv39 : Nat → Int32), ∀ (uv40 : Nat → Int32), ∀ (uv41 : Nat → Int32), ∀ (uv42 : Nat → Int32), ∀ (uv43 : Nat → Int32), ∀ (uv44 : Nat → Int64), ∀ (uv45 : ZL), K2687 rc rs uv0 uv1 uv2 uv3 uv4 uv5 uv6 uv8 uv9 uv10 uv11 uv12 uv13 uv14 uv15 uv16 uv17 uv18 uv19 uv20 uv21 uv22 uv23 uv24 uv25 uv26 uv27 uv28 uv29 uv30 uv31 uv32 uv33 uv34 uv35 uv36 uv37 uv38 uv39 uv40 uv41 uv42 uv43 uv44 uv45 → ww x (W_L_law (xg x) a0 a1 a2 a3 a4 a5 a6 a7 a8 a9 a10 a11 a12 a13 a14 a15 a16 a17 a18 a19 a20 a21 a22 a23 a24 a25 a26 a27 a28 a29 a30 a31 a32 a33 a34 a35 a36 a37 a38 a39 ab uv0 uv1 uv2 uv3 uv4 uv5 uv6 v7 uv8 uv9 uv10 uv11 uv12 uv13 uv14 uv15 uv16 uv17 uv18 uv19 uv20 uv21 uv22 uv23 uv24 uv25 uv26 uv27 uv28 uv29 uv30 uv31 uv32 uv33 uv34 uv35 uv36 uv37 uv38 uv39 uv40 uv41 uv42 uv43 uv44 v46 v47 ++ ZP (xg x) a39 uv45) [] k0 n0 2687 []) :
    ww x (W_L_law (xg x) a0 a1 a2 a3 a4 a5 a6 a7 a8 a9 a10 a11 a12 a13 a14 a15 a16 a17 a18 a19 a20 a21 a22 a23 a24 a25 a26 a27 a28 a29 a30 a31 a32 a33 a34 a35 a36 a37 a38 a39 ab v0 v1 v2 v3 v4 v5 v6 v7 v8 v9 v10 v11 v12 v13 v14 v15 v16 v17 v18 v19 v20 v21 v22 v23 v24 v25 v26 v27 v28 v29 v30 v31 v32 v33 v34 v35 v36 v37 v38 v39 v40 v41 v42 v43 v44 v46 v47 ++ ZP (xg x) a39 v45) [(0, .ref ab), (1, .ref a0), (2, .ref a27), (3, .ref a38), (4, .int z4)] k0 n0 23 [] := by
  induction n generalizing k0 n0 rc rs z4 v0 v1 v2 v3 v4 v5 v6 v8 v9 v10 v11 v12 v13 v14 v15 v16 v17 v18 v19 v20 v21 v22 v23 v24 v25 v26 v27 v28 v29 v30 v31 v32 v33 v34 v35 v36 v37 v38 v39 v40 v41 v42 v43 v44 v45 with
  | zero => exact h.elim
  | succ n ih =>
    unfold P_L_law_L23 at h
    refine xw_iload hf (pc := 23) dL_law_23 4 rfl ?_
    refine xw_aload_n hf (pc := 25) dL_law_25 rfl 0 rfl ?_
    refine xw_slen hf hX dL_law_26 ?_
    refine xw_iconst hf (pc := 27) dL_law_27 (v := 5) (by decide) ?_
    refine xw_isub hf (pc := 28) dL_law_28 ?_
    refine xw_icmp_gt hf (pc := 29) dL_law_29 (tgt := 2687) rfl ⟨fun c => ?_, fun c => ?_⟩
    · have h := h.1 c
      refine xw_L [] rfl ?_
      exact hK2687 _ _ _ _ hk _ _ _ _ _ _ _ _ _ _ _ _ _ _ _ _ _ _ _ _ _ _ _ _ _ _ _ _ _ _ _ _ _ _ _ _ _ _ _ _ _ _ _ _ _ h
    · have h := h.2 c
      refine xw_aload_n hf (pc := 32) dL_law_32 rfl 0 rfl ?_
      refine xw_iload hf (pc := 33) dL_law_33 4 rfl ?_
      refine xw_sald hf hX dL_law_35 h.1 ?_
      have h := h.2
      refine xw_bipush hf (pc := 36) dL_law_36 (v := 63) (by decide) ?_
      refine xw_iand hf (pc := 38) dL_law_38 ?_
      refine xw_tsw hf [196, 284, 372, 385, 440, 535, 623, 722, 735, 823, 922, 1022, 1078, 1091, 1159, 1215, 1271, 1359, 1447, 1535, 1635, 1735, 1791, 1846, 1902, 2002, 2113, 2213, 2313, 2326, 2381, 2437, 2500, 2556, 2569, 2625] dL_law_39 (by decide) rfl (dt := 2681) rfl ⟨fun j hj hv t ht => ?_, fun hv => ?_⟩
      · rcases (show j = 0 ∨ j = 1 ∨ j = 2 ∨ j = 3 ∨ j = 4 ∨ j = 5 ∨ j = 6 ∨ j = 7 ∨ j = 8 ∨ j = 9 ∨ j = 10 ∨ j = 11 ∨ j = 12 ∨ j = 13 ∨ j = 14 ∨ j = 15 ∨ j = 16 ∨ j = 17 ∨ j = 18 ∨ j = 19 ∨ j = 20 ∨ j = 21 ∨ j = 22 ∨ j = 23 ∨ j = 24 ∨ j = 25 ∨ j = 26 ∨ j = 27 ∨ j = 28 ∨ j = 29 ∨ j = 30 ∨ j = 31 ∨ j = 32 ∨ j = 33 ∨ j = 34 ∨ j = 35 by omega) with rfl | rfl | rfl | rfl | rfl | rfl | rfl | rfl | rfl | rfl | rfl | rfl | rfl | rfl | rfl | rfl | rfl | rfl | rfl | rfl | rfl | rfl | rfl | rfl | rfl | rfl | rfl | rfl | rfl | rfl | rfl | rfl | rfl | rfl | rfl | rfl
        · have e : (196 : Nat) = t := Option.some.inj ht
          subst e
          have h := h.1 hv
          refine xw_L [0, 1, 2, 3, 4] rfl ?_
          refine w_L_law_L196 hf hn hk a0 a1 a2 a3 a4 a5 a6 a7 a8 a9 a10 a11 a12 a13 a14 a15 a16 a17 a18 a19 a20 a21 a22 a23 a24 a25 a26 a27 a28 a29 a30 a31 a32 a33 a34 a35 a36 a37 a38 a39 ab z4 v21 v22 v23 v24 v46 v47 v2 v3 v4 v5 v6 v7 v8 v9 v10 v11 v12 v13 v14 v15 v16 v17 v18 v26 v27 v28 v29 v30 v31 v32 v33 v34 v35 v36 v37 v38 v39 v40 v41 v42 v43 v45 hst hX FU _ _ _ _ _ _ h (fun k18 n19 mc20 ms21 hk w12 w13 w14 w15 w16 w17 h => ?_)
          refine xw_iinc hf (pc := 2681) dL_law_2681 (v := z4 + 5) 4 rfl rfl [(4, .int (z4 + 5)), (0, .ref ab), (1, .ref a0), (2, .ref a27), (3, .ref a38)] hn (by decide) rfl ?_
          refine xw_goto hf (pc := 2684) dL_law_2684 (tgt := 23) rfl ?_
          refine xw_L [1, 2, 3, 4, 0] rfl ?_
          exact ih hk _ _ _ _ _ _ _ _ _ _ _ _ _ _ _ _ _ _ _ _ _ _ _ _ _ _ _ _ _ _ _ _ _ _ _ _ _ _ _ _ _ _ _ _ _ _ h
        · have e : (284 : Nat) = t := Option.some.inj ht
          subst e
          have h := h.2.1 hv
          refine xw_L [0, 1, 2, 3, 4] rfl ?_
          refine w_L_law_L284 hf hn hk a0 a1 a2 a3 a4 a5 a6 a7 a8 a9 a10 a11 a12 a13 a14 a15 a16 a17 a18 a19 a20 a21 a22 a23 a24 a25 a26 a27 a28 a29 a30 a31 a32 a33 a34 a35 a36 a37 a38 a39 ab z4 v21 v22 v23 v24 v46 v47 v2 v3 v4 v5 v6 v7 v8 v9 v10 v11 v12 v13 v14 v15 v16 v17 v18 v26 v27 v28 v29 v30 v31 v32 v33 v34 v35 v36 v37 v38 v39 v40 v41 v42 v43 v45 hst hX FU _ _ _ _ _ _ h (fun k39 n40 mc41 ms42 hk w33 w34 w35 w36 w37 w38 h => ?_)
          refine xw_iinc hf (pc := 2681) dL_law_2681 (v := z4 + 5) 4 rfl rfl [(4, .int (z4 + 5)), (0, .ref ab), (1, .ref a0), (2, .ref a27), (3, .ref a38)] hn (by decide) rfl ?_
          refine xw_goto hf (pc := 2684) dL_law_2684 (tgt := 23) rfl ?_
          refine xw_L [1, 2, 3, 4, 0] rfl ?_
          exact ih hk _ _ _ _ _ _ _ _ _ _ _ _ _ _ _ _ _ _ _ _ _ _ _ _ _ _ _ _ _ _ _ _ _ _ _ _ _ _ _ _ _ _ _ _ _ _ h
        · have e : (372 : Nat) = t := Option.some.inj ht
          subst e
          have h := h.2.2.1 hv
          refine xw_L [0, 1, 2, 3, 4] rfl ?_
          refine w_L_law_L372 hf hn hk a0 a1 a2 a3 a4 a5 a6 a7 a8 a9 a10 a11 a12 a13 a14 a15 a16 a17 a18 a19 a20 a21 a22 a23 a24 a25 a26 a27 a28 a29 a30 a31 a32 a33 a34 a35 a36 a37 a38 a39 ab z4 v0 v20 v21 v22 v23 v24 v1 v2 v3 v4 v5 v6 v7 v8 v9 v10 v11 v12 v13 v14 v15 v16 v17 v18 v25 v26 v27 v28 v29 v30 v31 v32 v33 v34 v35 v36 v37 v38 v39 v40 v41 v42 v43 v44 v45 v46 v47 hst hX FU _ h (fun k47 n48 mc49 ms50 hk w46 h => ?_)
          refine xw_iinc hf (pc := 2681) dL_law_2681 (v := z4 + 5) 4 rfl rfl [(4, .int (z4 + 5)), (0, .ref ab), (1, .ref a0), (2, .ref a27), (3, .ref a38)] hn (by decide) rfl ?_
          refine xw_goto hf (pc := 2684) dL_law_2684 (tgt := 23) rfl ?_
          refine xw_L [1, 2, 3, 4, 0] rfl ?_
          exact ih hk _ _ _ _ _ _ _ _ _ _ _ _ _ _ _ _ _ _ _ _ _ _ _ _ _ _ _ _ _ _ _ _ _ _ _ _ _ _ _ _ _ _ _ _ _ _ h
        · have e : (385 : Nat) = t := Option.some.inj ht
          subst e
          have h := h.2.2.2.1 hv
          refine xw_L [0, 1, 2, 3, 4] rfl ?_
          refine w_L_law_L385 hf hn hk a0 a1 a2 a3 a4 a5 a6 a7 a8 a9 a10 a11 a12 a13 a14 a15 a16 a17 a18 a19 a20 a21 a22 a23 a24 a25 a26 a27 a28 a29 a30 a31 a32 a33 a34 a35 a36 a37 a38 a39 ab z4 v0 v1 v20 v21 v22 v23 v24 v25 v40 v46 v47 v2 v3 v4 v5 v6 v7 v8 v9 v10 v11 v12 v13 v14 v15 v16 v17 v18 v26 v27 v28 v29 v30 v31 v32 v33 v34 v35 v36 v37 v38 v39 v41 v42 v43 v45 hst hX FU _ _ h (fun k60 n61 mc62 ms63 hk w58 w59 h => ?_)
          refine xw_iinc hf (pc := 2681) dL_law_2681 (v := z4 + 5) 4 rfl rfl [(4, .int (z4 + 5)), (0, .ref ab), (1, .ref a0), (2, .ref a27), (3, .ref a38)] hn (by decide) rfl ?_
          refine xw_goto hf (pc := 2684) dL_law_2684 (tgt := 23) rfl ?_
          refine xw_L [1, 2, 3, 4, 0] rfl ?_
          exact ih hk _ _ _ _ _ _ _ _ _ _ _ _ _ _ _ _ _ _ _ _ _ _ _ _ _ _ _ _ _ _ _ _ _ _ _ _ _ _ _ _ _ _ _ _ _ _ h
        · have e : (440 : Nat) = t := Option.some.inj ht
          subst e
          have h := h.2.2.2.2.1 hv
          refine xw_L [0, 1, 2, 3, 4] rfl ?_
          refine w_L_law_L440 hf hn hk a0 a1 a2 a3 a4 a5 a6 a7 a8 a9 a10 a11 a12 a13 a14 a15 a16 a17 a18 a19 a20 a21 a22 a23 a24 a25 a26 a27 a28 a29 a30 a31 a32 a33 a34 a35 a36 a37 a38 a39 ab z4 v0 v1 v20 v21 v22 v23 v24 v25 v46 v47 v2 v3 v4 v5 v6 v7 v8 v9 v10 v11 v12 v13 v14 v15 v16 v17 v18 v26 v27 v28 v29 v30 v31 v32 v33 v34 v35 v36 v37 v38 v39 v40 v41 v42 v43 v45 hst hX FU _ _ h (fun k73 n74 mc75 ms76 hk w71 w72 h => ?_)
          refine xw_iinc hf (pc := 2681) dL_law_2681 (v := z4 + 5) 4 rfl rfl [(4, .int (z4 + 5)), (0, .ref ab), (1, .ref a0), (2, .ref a27), (3, .ref a38)] hn (by decide) rfl ?_
          refine xw_goto hf (pc := 2684) dL_law_2684 (tgt := 23) rfl ?_
          refine xw_L [1, 2, 3, 4, 0] rfl ?_
          exact ih hk _ _ _ _ _ _ _ _ _ _ _ _ _ _ _ _ _ _ _ _ _ _ _ _ _ _ _ _ _ _ _ _ _ _ _ _ _ _ _ _ _ _ _ _ _ _ h
        · have e : (535 : Nat) = t := Option.some.inj ht
          subst e
          have h := h.2.2.2.2.2.1 hv
          refine xw_L [0, 1, 2, 3, 4] rfl ?_
          refine w_L_law_L535 hf hn hk a0 a1 a2 a3 a4 a5 a6 a7 a8 a9 a10 a11 a12 a13 a14 a15 a16 a17 a18 a19 a20 a21 a22 a23 a24 a25 a26 a27 a28 a29 a30 a31 a32 a33 a34 a35 a36 a37 a38 a39 ab z4 v0 v1 v20 v21 v22 v24 v25 v46 v47 v5 v6 v7 v8 v9 v10 v11 v12 v13 v14 v15 v16 v17 v18 v26 v27 v28 v29 v30 v31 v32 v33 v34 v35 v36 v37 v38 v41 v42 v43 v45 hst hX FU _ _ _ _ _ _ _ _ h (fun k98 n99 mc100 ms101 hk w90 w91 w92 w93 w94 w95 w96 w97 h => ?_)
          refine xw_iinc hf (pc := 2681) dL_law_2681 (v := z4 + 5) 4 rfl rfl [(4, .int (z4 + 5)), (0, .ref ab), (1, .ref a0), (2, .ref a27), (3, .ref a38)] hn (by decide) rfl ?_
          refine xw_goto hf (pc := 2684) dL_law_2684 (tgt := 23) rfl ?_
          refine xw_L [1, 2, 3, 4, 0] rfl ?_
          exact ih hk _ _ _ _ _ _ _ _ _ _ _ _ _ _ _ _ _ _ _ _ _ _ _ _ _ _ _ _ _ _ _ _ _ _ _ _ _ _ _ _ _ _ _ _ _ _ h
        · have e : (623 : Nat) = t := Option.some.inj ht
          subst e
          have h := h.2.2.2.2.2.2.1 hv
          refine xw_L [0, 1, 2, 3, 4] rfl ?_
          refine w_L_law_L623 hf hn hk a0 a1 a2 a3 a4 a5 a6 a7 a8 a9 a10 a11 a12 a13 a14 a15 a16 a17 a18 a19 a20 a21 a22 a23 a24 a25 a26 a27 a28 a29 a30 a31 a32 a33 a34 a35 a36 a37 a38 a39 ab z4 v0 v1 v20 v21 v22 v24 v25 v46 v47 v5 v6 v7 v8 v9 v10 v11 v12 v13 v14 v15 v16 v17 v18 v26 v27 v28 v29 v30 v31 v32 v33 v34 v35 v36 v37 v38 v41 v42 v43 v45 hst hX FU _ _ _ _ _ _ _ _ h (fun k123 n124 mc125 ms126 hk w115 w116 w117 w118 w119 w120 w121 w122 h => ?_)
          refine xw_iinc hf (pc := 2681) dL_law_2681 (v := z4 + 5) 4 rfl rfl [(4, .int (z4 + 5)), (0, .ref ab), (1, .ref a0), (2, .ref a27), (3, .ref a38)] hn (by decide) rfl ?_
          refine xw_goto hf (pc := 2684) dL_law_2684 (tgt := 23) rfl ?_
          refine xw_L [1, 2, 3, 4, 0] rfl ?_
          exact ih hk _ _ _ _ _ _ _ _ _ _ _ _ _ _ _ _ _ _ _ _ _ _ _ _ _ _ _ _ _ _ _ _ _ _ _ _ _ _ _ _ _ _ _ _ _ _ h
        · have e : (722 : Nat) = t := Option.some.inj ht
          subst e
          have h := h.2.2.2.2.2.2.2.1 hv
          refine xw_L [0, 1, 2, 3, 4] rfl ?_
          refine w_L_law_L722 hf hn hk a0 a1 a2 a3 a4 a5 a6 a7 a8 a9 a10 a11 a12 a13 a14 a15 a16 a17 a18 a19 a20 a21 a22 a23 a24 a25 a26 a27 a28 a29 a30 a31 a32 a33 a34 a35 a36 a37 a38 a39 ab z4 v0 v1 v20 v21 v22 v24 v25 v5 v6 v7 v8 v9 v10 v11 v12 v13 v14 v15 v16 v17 v18 v26 v27 v28 v29 v30 v31 v32 v33 v34 v35 v36 v37 v38 v41 v42 v43 v44 v45 v46 v47 hst hX FU _ _ _ _ _ _ _ h (fun k143 n144 mc145 ms146 hk w136 w137 w138 w139 w140 w141 w142 h => ?_)
          refine xw_iinc hf (pc := 2681) dL_law_2681 (v := z4 + 5) 4 rfl rfl [(4, .int (z4 + 5)), (0, .ref ab), (1, .ref a0), (2, .ref a27), (3, .ref a38)] hn (by decide) rfl ?_
          refine xw_goto hf (pc := 2684) dL_law_2684 (tgt := 23) rfl ?_
          refine xw_L [1, 2, 3, 4, 0] rfl ?_
          exact ih hk _ _ _ _ _ _ _ _ _ _ _ _ _ _ _ _ _ _ _ _ _ _ _ _ _ _ _ _ _ _ _ _ _ _ _ _ _ _ _ _ _ _ _ _ _ _ h
        · have e : (735 : Nat) = t := Option.some.inj ht
          subst e
          have h := h.2.2.2.2.2.2.2.2.1 hv
          refine xw_L [0, 1, 2, 3, 4] rfl ?_
          refine w_L_law_L735 hf hn hk a0 a1 a2 a3 a4 a5 a6 a7 a8 a9 a10 a11 a12 a13 a14 a15 a16 a17 a18 a19 a20 a21 a22 a23 a24 a25 a26 a27 a28 a29 a30 a31 a32 a33 a34 a35 a36 a37 a38 a39 ab z4 v0 v1 v20 v21 v22 v24 v25 v46 v47 v5 v6 v7 v8 v9 v10 v11 v12 v13 v14 v15 v16 v17 v18 v26 v27 v28 v29 v30 v31 v32 v33 v34 v35 v36 v37 v38 v41 v42 v43 v45 hst hX FU _ _ _ _ _ _ _ _ h (fun k168 n169 mc170 ms171 hk w160 w161 w162 w163 w164 w165 w166 w167 h => ?_)
          refine xw_iinc hf (pc := 2681) dL_law_2681 (v := z4 + 5) 4 rfl rfl [(4, .int (z4 + 5)), (0, .ref ab), (1, .ref a0), (2, .ref a27), (3, .ref a38)] hn (by decide) rfl ?_
          refine xw_goto hf (pc := 2684) dL_law_2684 (tgt := 23) rfl ?_
          refine xw_L [1, 2, 3, 4, 0] rfl ?_
          exact ih hk _ _ _ _ _ _ _ _ _ _ _ _ _ _ _ _ _ _ _ _ _ _ _ _ _ _ _ _ _ _ _ _ _ _ _ _ _ _ _ _ _ _ _ _ _ _ h
        · have e : (823 : Nat) = t := Option.some.inj ht
          subst e
          have h := h.2.2.2.2.2.2.2.2.2.1 hv
          refine xw_L [0, 1, 2, 3, 4] rfl ?_
          refine w_L_law_L823 hf hn hk a0 a1 a2 a3 a4 a5 a6 a7 a8 a9 a10 a11 a12 a13 a14 a15 a16 a17 a18 a19 a20 a21 a22 a23 a24 a25 a26 a27 a28 a29 a30 a31 a32 a33 a34 a35 a36 a37 a38 a39 ab z4 v0 v1 v20 v21 v22 v24 v25 v46 v47 v5 v6 v7 v8 v9 v10 v11 v12 v13 v14 v15 v16 v17 v18 v26 v27 v28 v29 v30 v31 v32 v33 v34 v35 v36 v37 v38 v41 v42 v43 v45 hst hX FU _ _ _ _ _ _ _ _ h (fun k193 n194 mc195 ms196 hk w185 w186 w187 w188 w189 w190 w191 w192 h => ?_)
          refine xw_iinc hf (pc := 2681) dL_law_2681 (v := z4 + 5) 4 rfl rfl [(4, .int (z4 + 5)), (0, .ref ab), (1, .ref a0), (2, .ref a27), (3, .ref a38)] hn (by decide) rfl ?_
          refine xw_goto hf (pc := 2684) dL_law_2684 (tgt := 23) rfl ?_
          refine xw_L [1, 2, 3, 4, 0] rfl ?_
          exact ih hk _ _ _ _ _ _ _ _ _ _ _ _ _ _ _ _ _ _ _ _ _ _ _ _ _ _ _ _ _ _ _ _ _ _ _ _ _ _ _ _ _ _ _ _ _ _ h
        · have e : (922 : Nat) = t := Option.some.inj ht
          subst e
          have h := h.2.2.2.2.2.2.2.2.2.2.1 hv
          refine xw_L [0, 1, 2, 3, 4] rfl ?_
          refine w_L_law_L922 hf hn hk a0 a1 a2 a3 a4 a5 a6 a7 a8 a9 a10 a11 a12 a13 a14 a15 a16 a17 a18 a19 a20 a21 a22 a23 a24 a25 a26 a27 a28 a29 a30 a31 a32 a33 a34 a35 a36 a37 a38 a39 ab z4 v8 v20 v21 v22 v24 v46 v47 v0 v1 v2 v3 v4 v6 v7 v10 v11 v12 v13 v14 v15 v16 v17 v25 v27 v29 v30 v31 v32 v33 v34 v35 v36 v37 v38 v41 v42 v43 v45 hst hX FU _ _ _ _ _ _ _ _ _ _ h (fun k222 n223 mc224 ms225 hk w212 w213 w214 w215 w216 w217 w218 w219 w220 w221 h => ?_)
          refine xw_iinc hf (pc := 2681) dL_law_2681 (v := z4 + 5) 4 rfl rfl [(4, .int (z4 + 5)), (0, .ref ab), (1, .ref a0), (2, .ref a27), (3, .ref a38)] hn (by decide) rfl ?_
          refine xw_goto hf (pc := 2684) dL_law_2684 (tgt := 23) rfl ?_
          refine xw_L [1, 2, 3, 4, 0] rfl ?_
          exact ih hk _ _ _ _ _ _ _ _ _ _ _ _ _ _ _ _ _ _ _ _ _ _ _ _ _ _ _ _ _ _ _ _ _ _ _ _ _ _ _ _ _ _ _ _ _ _ h
        · have e : (1022 : Nat) = t := Option.some.inj ht
          subst e
          have h := h.2.2.2.2.2.2.2.2.2.2.2.1 hv
          refine xw_L [0, 1, 2, 3, 4] rfl ?_
          refine w_L_law_L1022 hf hn hk a0 a1 a2 a3 a4 a5 a6 a7 a8 a9 a10 a11 a12 a13 a14 a15 a16 a17 a18 a19 a20 a21 a22 a23 a24 a25 a26 a27 a28 a29 a30 a31 a32 a33 a34 a35 a36 a37 a38 a39 ab z4 v5 v20 v21 v22 v23 v24 v26 v46 v47 v0 v1 v2 v3 v4 v6 v7 v8 v9 v10 v11 v12 v13 v14 v15 v16 v17 v18 v25 v27 v28 v29 v30 v31 v32 v33 v34 v35 v36 v37 v38 v39 v40 v41 v42 v43 v45 hst hX FU _ _ h (fun k235 n236 mc237 ms238 hk w233 w234 h => ?_)
          refine xw_iinc hf (pc := 2681) dL_law_2681 (v := z4 + 5) 4 rfl rfl [(4, .int (z4 + 5)), (0, .ref ab), (1, .ref a0), (2, .ref a27), (3, .ref a38)] hn (by decide) rfl ?_
          refine xw_goto hf (pc := 2684) dL_law_2684 (tgt := 23) rfl ?_
          refine xw_L [1, 2, 3, 4, 0] rfl ?_
          exact ih hk _ _ _ _ _ _ _ _ _ _ _ _ _ _ _ _ _ _ _ _ _ _ _ _ _ _ _ _ _ _ _ _ _ _ _ _ _ _ _ _ _ _ _ _ _ _ h
        · have e : (1078 : Nat) = t := Option.some.inj ht
          subst e
          have h := h.2.2.2.2.2.2.2.2.2.2.2.2.1 hv
          refine xw_L [0, 1, 2, 3, 4] rfl ?_
          refine w_L_law_L1078 hf hn hk a0 a1 a2 a3 a4 a5 a6 a7 a8 a9 a10 a11 a12 a13 a14 a15 a16 a17 a18 a19 a20 a21 a22 a23 a24 a25 a26 a27 a28 a29 a30 a31 a32 a33 a34 a35 a36 a37 a38 a39 ab z4 v5 v20 v21 v22 v23 v24 v26 v0 v1 v2 v3 v4 v6 v7 v8 v9 v10 v11 v12 v13 v14 v15 v16 v17 v18 v25 v27 v28 v29 v30 v31 v32 v33 v34 v35 v36 v37 v38 v39 v40 v41 v42 v43 v44 v45 v46 v47 hst hX FU _ h (fun k243 n244 mc245 ms246 hk w242 h => ?_)
          refine xw_iinc hf (pc := 2681) dL_law_2681 (v := z4 + 5) 4 rfl rfl [(4, .int (z4 + 5)), (0, .ref ab), (1, .ref a0), (2, .ref a27), (3, .ref a38)] hn (by decide) rfl ?_
          refine xw_goto hf (pc := 2684) dL_law_2684 (tgt := 23) rfl ?_
          refine xw_L [1, 2, 3, 4, 0] rfl ?_
          exact ih hk _ _ _ _ _ _ _ _ _ _ _ _ _ _ _ _ _ _ _ _ _ _ _ _ _ _ _ _ _ _ _ _ _ _ _ _ _ _ _ _ _ _ _ _ _ _ h
        · have e : (1091 : Nat) = t := Option.some.inj ht
          subst e
          have h := h.2.2.2.2.2.2.2.2.2.2.2.2.2.1 hv
          refine xw_L [0, 1, 2, 3, 4] rfl ?_
          refine w_L_law_L1091 hf hn hk a0 a1 a2 a3 a4 a5 a6 a7 a8 a9 a10 a11 a12 a13 a14 a15 a16 a17 a18 a19 a20 a21 a22 a23 a24 a25 a26 a27 a28 a29 a30 a31 a32 a33 a34 a35 a36 a37 a38 a39 ab z4 v20 v21 v22 v23 v24 v46 v47 v0 v1 v2 v3 v4 v5 v7 v8 v9 v10 v11 v12 v13 v14 v15 v16 v17 v18 v25 v26 v28 v29 v30 v31 v32 v33 v34 v35 v36 v37 v38 v39 v40 v41 v42 v43 v45 hst hX FU _ _ _ _ h (fun k260 n261 mc262 ms263 hk w256 w257 w258 w259 h => ?_)
          refine xw_iinc hf (pc := 2681) dL_law_2681 (v := z4 + 5) 4 rfl rfl [(4, .int (z4 + 5)), (0, .ref ab), (1, .ref a0), (2, .ref a27), (3, .ref a38)] hn (by decide) rfl ?_
          refine xw_goto hf (pc := 2684) dL_law_2684 (tgt := 23) rfl ?_
          refine xw_L [1, 2, 3, 4, 0] rfl ?_
          exact ih hk _ _ _ _ _ _ _ _ _ _ _ _ _ _ _ _ _ _ _ _ _ _ _ _ _ _ _ _ _ _ _ _ _ _ _ _ _ _ _ _ _ _ _ _ _ _ h
        · have e : (1159 : Nat) = t := Option.some.inj ht
          subst e
          have h := h.2.2.2.2.2.2.2.2.2.2.2.2.2.2.1 hv
          refine xw_L [0, 1, 2, 3, 4] rfl ?_
          refine w_L_law_L1159 hf hn hk a0 a1 a2 a3 a4 a5 a6 a7 a8 a9 a10 a11 a12 a13 a14 a15 a16 a17 a18 a19 a20 a21 a22 a23 a24 a25 a26 a27 a28 a29 a30 a31 a32 a33 a34 a35 a36 a37 a38 a39 ab z4 v6 v20 v21 v22 v23 v24 v27 v46 v47 v0 v1 v2 v3 v4 v5 v7 v8 v9 v10 v11 v12 v13 v14 v15 v16 v17 v18 v25 v26 v28 v29 v30 v31 v32 v33 v34 v35 v36 v37 v38 v39 v40 v41 v42 v43 v45 hst hX FU _ _ h (fun k273 n274 mc275 ms276 hk w271 w272 h => ?_)
          refine xw_iinc hf (pc := 2681) dL_law_2681 (v := z4 + 5) 4 rfl rfl [(4, .int (z4 + 5)), (0, .ref ab), (1, .ref a0), (2, .ref a27), (3, .ref a38)] hn (by decide) rfl ?_
          refine xw_goto hf (pc := 2684) dL_law_2684 (tgt := 23) rfl ?_
          refine xw_L [1, 2, 3, 4, 0] rfl ?_
          exact ih hk _ _ _ _ _ _ _ _ _ _ _ _ _ _ _ _ _ _ _ _ _ _ _ _ _ _ _ _ _ _ _ _ _ _ _ _ _ _ _ _ _ _ _ _ _ _ h
        · have e : (1215 : Nat) = t := Option.some.inj ht
          subst e
          have h := h.2.2.2.2.2.2.2.2.2.2.2.2.2.2.2.1 hv
          refine xw_L [0, 1, 2, 3, 4] rfl ?_
          refine w_L_law_L1215 hf hn hk a0 a1 a2 a3 a4 a5 a6 a7 a8 a9 a10 a11 a12 a13 a14 a15 a16 a17 a18 a19 a20 a21 a22 a23 a24 a25 a26 a27 a28 a29 a30 a31 a32 a33 a34 a35 a36 a37 a38 a39 ab z4 v5 v6 v20 v21 v22 v23 v24 v26 v27 v46 v47 v0 v1 v2 v3 v4 v7 v8 v9 v10 v11 v12 v13 v14 v15 v16 v17 v18 v25 v28 v29 v30 v31 v32 v33 v34 v35 v36 v37 v38 v39 v40 v41 v42 v43 v45 hst hX FU _ _ h (fun k286 n287 mc288 ms289 hk w284 w285 h => ?_)
          refine xw_iinc hf (pc := 2681) dL_law_2681 (v := z4 + 5) 4 rfl rfl [(4, .int (z4 + 5)), (0, .ref ab), (1, .ref a0), (2, .ref a27), (3, .ref a38)] hn (by decide) rfl ?_
          refine xw_goto hf (pc := 2684) dL_law_2684 (tgt := 23) rfl ?_
          refine xw_L [1, 2, 3, 4, 0] rfl ?_
          exact ih hk _ _ _ _ _ _ _ _ _ _ _ _ _ _ _ _ _ _ _ _ _ _ _ _ _ _ _ _ _ _ _ _ _ _ _ _ _ _ _ _ _ _ _ _ _ _ h
        · have e : (1271 : Nat) = t := Option.some.inj ht
          subst e
          have h := h.2.2.2.2.2.2.2.2.2.2.2.2.2.2.2.2.1 hv
          refine xw_L [0, 1, 2, 3, 4] rfl ?_
          refine w_L_law_L1271 hf hn hk a0 a1 a2 a3 a4 a5 a6 a7 a8 a9 a10 a11 a12 a13 a14 a15 a16 a17 a18 a19 a20 a21 a22 a23 a24 a25 a26 a27 a28 a29 a30 a31 a32 a33 a34 a35 a36 a37 a38 a39 ab z4 v7 v20 v21 v22 v23 v24 v46 v47 v0 v1 v2 v3 v4 v5 v6 v8 v9 v10 v11 v12 v13 v14 v15 v16 v17 v18 v25 v26 v27 v28 v29 v30 v31 v32 v33 v34 v35 v36 v37 v38 v39 v40 v41 v42 v43 v45 hst hX FU _ _ h (fun k299 n300 mc301 ms302 hk w297 w298 h => ?_)
          refine xw_iinc hf (pc := 2681) dL_law_2681 (v := z4 + 5) 4 rfl rfl [(4, .int (z4 + 5)), (0, .ref ab), (1, .ref a0), (2, .ref a27), (3, .ref a38)] hn (by decide) rfl ?_
          refine xw_goto hf (pc := 2684) dL_law_2684 (tgt := 23) rfl ?_
          refine xw_L [1, 2, 3, 4, 0] rfl ?_
          exact ih hk _ _ _ _ _ _ _ _ _ _ _ _ _ _ _ _ _ _ _ _ _ _ _ _ _ _ _ _ _ _ _ _ _ _ _ _ _ _ _ _ _ _ _ _ _ _ h
        · have e : (1359 : Nat) = t := Option.some.inj ht
          subst e
          have h := h.2.2.2.2.2.2.2.2.2.2.2.2.2.2.2.2.2.1 hv
          refine xw_L [0, 1, 2, 3, 4] rfl ?_
          refine w_L_law_L1359 hf hn hk a0 a1 a2 a3 a4 a5 a6 a7 a8 a9 a10 a11 a12 a13 a14 a15 a16 a17 a18 a19 a20 a21 a22 a23 a24 a25 a26 a27 a28 a29 a30 a31 a32 a33 a34 a35 a36 a37 a38 a39 ab z4 v6 v7 v20 v21 v22 v24 v26 v27 v46 v47 v0 v1 v2 v3 v4 v8 v9 v10 v11 v12 v13 v14 v15 v16 v17 v18 v25 v28 v29 v30 v31 v32 v33 v34 v35 v36 v37 v38 v42 v43 v45 hst hX FU _ _ _ _ _ _ _ h (fun k322 n323 mc324 ms325 hk w315 w316 w317 w318 w319 w320 w321 h => ?_)
          refine xw_iinc hf (pc := 2681) dL_law_2681 (v := z4 + 5) 4 rfl rfl [(4, .int (z4 + 5)), (0, .ref ab), (1, .ref a0), (2, .ref a27), (3, .ref a38)] hn (by decide) rfl ?_
          refine xw_goto hf (pc := 2684) dL_law_2684 (tgt := 23) rfl ?_
          refine xw_L [1, 2, 3, 4, 0] rfl ?_
          exact ih hk _ _ _ _ _ _ _ _ _ _ _ _ _ _ _ _ _ _ _ _ _ _ _ _ _ _ _ _ _ _ _ _ _ _ _ _ _ _ _ _ _ _ _ _ _ _ h
        · have e : (1447 : Nat) = t := Option.some.inj ht
          subst e
          have h := h.2.2.2.2.2.2.2.2.2.2.2.2.2.2.2.2.2.2.1 hv
          refine xw_L [0, 1, 2, 3, 4] rfl ?_
          refine w_L_law_L1447 hf hn hk a0 a1 a2 a3 a4 a5 a6 a7 a8 a9 a10 a11 a12 a13 a14 a15 a16 a17 a18 a19 a20 a21 a22 a23 a24 a25 a26 a27 a28 a29 a30 a31 a32 a33 a34 a35 a36 a37 a38 a39 ab z4 v5 v20 v21 v22 v24 v26 v46 v47 v0 v1 v2 v3 v4 v6 v7 v8 v9 v10 v11 v12 v13 v14 v15 v16 v17 v18 v25 v27 v28 v29 v30 v31 v32 v33 v34 v35 v36 v37 v38 v41 v42 v43 v45 hst hX FU _ _ _ _ _ h (fun k341 n342 mc343 ms344 hk w336 w337 w338 w339 w340 h => ?_)
          refine xw_iinc hf (pc := 2681) dL_law_2681 (v := z4 + 5) 4 rfl rfl [(4, .int (z4 + 5)), (0, .ref ab), (1, .ref a0), (2, .ref a27), (3, .ref a38)] hn (by decide) rfl ?_
          refine xw_goto hf (pc := 2684) dL_law_2684 (tgt := 23) rfl ?_
          refine xw_L [1, 2, 3, 4, 0] rfl ?_
          exact ih hk _ _ _ _ _ _ _ _ _ _ _ _ _ _ _ _ _ _ _ _ _ _ _ _ _ _ _ _ _ _ _ _ _ _ _ _ _ _ _ _ _ _ _ _ _ _ h
        · have e : (1535 : Nat) = t := Option.some.inj ht
          subst e
          have h := h.2.2.2.2.2.2.2.2.2.2.2.2.2.2.2.2.2.2.2.1 hv
          refine xw_L [0, 1, 2, 3, 4] rfl ?_
          refine w_L_law_L1535 hf hn hk a0 a1 a2 a3 a4 a5 a6 a7 a8 a9 a10 a11 a12 a13 a14 a15 a16 a17 a18 a19 a20 a21 a22 a23 a24 a25 a26 a27 a28 a29 a30 a31 a32 a33 a34 a35 a36 a37 a38 a39 ab z4 v0 v1 v6 v7 v20 v21 v22 v24 v25 v26 v27 v46 v47 v2 v3 v4 v8 v9 v10 v11 v12 v13 v14 v15 v16 v17 v18 v28 v29 v30 v31 v32 v33 v34 v35 v36 v37 v38 v42 v43 v45 hst hX FU _ _ _ _ _ _ _ h (fun k364 n365 mc366 ms367 hk w357 w358 w359 w360 w361 w362 w363 h => ?_)
          refine xw_iinc hf (pc := 2681) dL_law_2681 (v := z4 + 5) 4 rfl rfl [(4, .int (z4 + 5)), (0, .ref ab), (1, .ref a0), (2, .ref a27), (3, .ref a38)] hn (by decide) rfl ?_
          refine xw_goto hf (pc := 2684) dL_law_2684 (tgt := 23) rfl ?_
          refine xw_L [1, 2, 3, 4, 0] rfl ?_
          exact ih hk _ _ _ _ _ _ _ _ _ _ _ _ _ _ _ _ _ _ _ _ _ _ _ _ _ _ _ _ _ _ _ _ _ _ _ _ _ _ _ _ _ _ _ _ _ _ h
        · have e : (1635 : Nat) = t := Option.some.inj ht
          subst e
          have h := h.2.2.2.2.2.2.2.2.2.2.2.2.2.2.2.2.2.2.2.2.1 hv
          refine xw_L [0, 1, 2, 3, 4] rfl ?_
          refine w_L_law_L1635 hf hn hk a0 a1 a2 a3 a4 a5 a6 a7 a8 a9 a10 a11 a12 a13 a14 a15 a16 a17 a18 a19 a20 a21 a22 a23 a24 a25 a26 a27 a28 a29 a30 a31 a32 a33 a34 a35 a36 a37 a38 a39 ab z4 v0 v1 v6 v7 v20 v24 v25 v27 v46 v47 v2 v3 v4 v9 v11 v12 v13 v14 v15 v16 v17 v18 v28 v42 v43 hst hX FU _ _ _ _ _ _ _ _ _ _ _ _ _ _ _ _ _ _ _ _ _ _ _ h (fun k425 n426 mc427 ms428 hk w402 w403 w404 w405 w406 w407 w408 w409 w410 w411 w412 w413 w414 w415 w416 w417 w418 w419 w420 w421 w422 w423 w424 h => ?_)
          refine xw_iinc hf (pc := 2681) dL_law_2681 (v := z4 + 5) 4 rfl rfl [(4, .int (z4 + 5)), (0, .ref ab), (1, .ref a0), (2, .ref a27), (3, .ref a38)] hn (by decide) rfl ?_
          refine xw_goto hf (pc := 2684) dL_law_2684 (tgt := 23) rfl ?_
          refine xw_L [1, 2, 3, 4, 0] rfl ?_
          exact ih hk _ _ _ _ _ _ _ _ _ _ _ _ _ _ _ _ _ _ _ _ _ _ _ _ _ _ _ _ _ _ _ _ _ _ _ _ _ _ _ _ _ _ _ _ _ _ h
        · have e : (1735 : Nat) = t := Option.some.inj ht
          subst e
          have h := h.2.2.2.2.2.2.2.2.2.2.2.2.2.2.2.2.2.2.2.2.2.1 hv
          refine xw_L [0, 1, 2, 3, 4] rfl ?_
          refine w_L_law_L1735 hf hn hk a0 a1 a2 a3 a4 a5 a6 a7 a8 a9 a10 a11 a12 a13 a14 a15 a16 a17 a18 a19 a20 a21 a22 a23 a24 a25 a26 a27 a28 a29 a30 a31 a32 a33 a34 a35 a36 a37 a38 a39 ab z4 v0 v1 v6 v7 v20 v21 v22 v24 v25 v26 v27 v46 v47 v2 v3 v4 v8 v9 v10 v11 v12 v13 v14 v15 v16 v17 v18 v28 v29 v30 v31 v32 v33 v34 v35 v36 v37 v38 v42 v43 v45 hst hX FU _ _ _ _ _ _ _ h (fun k448 n449 mc450 ms451 hk w441 w442 w443 w444 w445 w446 w447 h => ?_)
          refine xw_iinc hf (pc := 2681) dL_law_2681 (v := z4 + 5) 4 rfl rfl [(4, .int (z4 + 5)), (0, .ref ab), (1, .ref a0), (2, .ref a27), (3, .ref a38)] hn (by decide) rfl ?_
          refine xw_goto hf (pc := 2684) dL_law_2684 (tgt := 23) rfl ?_
          refine xw_L [1, 2, 3, 4, 0] rfl ?_
          exact ih hk _ _ _ _ _ _ _ _ _ _ _ _ _ _ _ _ _ _ _ _ _ _ _ _ _ _ _ _ _ _ _ _ _ _ _ _ _ _ _ _ _ _ _ _ _ _ h
        · have e : (1791 : Nat) = t := Option.some.inj ht
          subst e
          have h := h.2.2.2.2.2.2.2.2.2.2.2.2.2.2.2.2.2.2.2.2.2.2.1 hv
          refine xw_L [0, 1, 2, 3, 4] rfl ?_
          refine w_L_law_L1791 hf hn hk a0 a1 a2 a3 a4 a5 a6 a7 a8 a9 a10 a11 a12 a13 a14 a15 a16 a17 a18 a19 a20 a21 a22 a23 a24 a25 a26 a27 a28 a29 a30 a31 a32 a33 a34 a35 a36 a37 a38 a39 ab z4 v0 v1 v6 v7 v20 v21 v22 v24 v25 v26 v27 v46 v47 v2 v3 v4 v8 v9 v10 v11 v12 v13 v14 v15 v16 v17 v18 v28 v29 v30 v31 v32 v33 v34 v35 v36 v37 v38 v42 v43 v45 hst hX FU _ _ _ _ _ _ _ h (fun k471 n472 mc473 ms474 hk w464 w465 w466 w467 w468 w469 w470 h => ?_)
          refine xw_iinc hf (pc := 2681) dL_law_2681 (v := z4 + 5) 4 rfl rfl [(4, .int (z4 + 5)), (0, .ref ab), (1, .ref a0), (2, .ref a27), (3, .ref a38)] hn (by decide) rfl ?_
          refine xw_goto hf (pc := 2684) dL_law_2684 (tgt := 23) rfl ?_
          refine xw_L [1, 2, 3, 4, 0] rfl ?_
          exact ih hk _ _ _ _ _ _ _ _ _ _ _ _ _ _ _ _ _ _ _ _ _ _ _ _ _ _ _ _ _ _ _ _ _ _ _ _ _ _ _ _ _ _ _ _ _ _ h
        · have e : (1846 : Nat) = t := Option.some.inj ht
          subst e
          have h := h.2.2.2.2.2.2.2.2.2.2.2.2.2.2.2.2.2.2.2.2.2.2.2.1 hv
          refine xw_L [0, 1, 2, 3, 4] rfl ?_
          refine w_L_law_L1846 hf hn hk a0 a1 a2 a3 a4 a5 a6 a7 a8 a9 a10 a11 a12 a13 a14 a15 a16 a17 a18 a19 a20 a21 a22 a23 a24 a25 a26 a27 a28 a29 a30 a31 a32 a33 a34 a35 a36 a37 a38 a39 ab z4 v0 v1 v6 v7 v20 v24 v25 v27 v46 v47 v2 v3 v4 v9 v11 v12 v13 v14 v15 v16 v17 v18 v28 v42 v43 hst hX FU _ _ _ _ _ _ _ _ _ _ _ _ _ _ _ _ _ _ _ _ _ _ _ h (fun k532 n533 mc534 ms535 hk w509 w510 w511 w512 w513 w514 w515 w516 w517 w518 w519 w520 w521 w522 w523 w524 w525 w526 w527 w528 w529 w530 w531 h => ?_)
          refine xw_iinc hf (pc := 2681) dL_law_2681 (v := z4 + 5) 4 rfl rfl [(4, .int (z4 + 5)), (0, .ref ab), (1, .ref a0), (2, .ref a27), (3, .ref a38)] hn (by decide) rfl ?_
          refine xw_goto hf (pc := 2684) dL_law_2684 (tgt := 23) rfl ?_
          refine xw_L [1, 2, 3, 4, 0] rfl ?_
          exact ih hk _ _ _ _ _ _ _ _ _ _ _ _ _ _ _ _ _ _ _ _ _ _ _ _ _ _ _ _ _ _ _ _ _ _ _ _ _ _ _ _ _ _ _ _ _ _ h
        · have e : (1902 : Nat) = t := Option.some.inj ht
          subst e
          have h := h.2.2.2.2.2.2.2.2.2.2.2.2.2.2.2.2.2.2.2.2.2.2.2.2.1 hv
          refine xw_L [0, 1, 2, 3, 4] rfl ?_
          refine w_L_law_L1902 hf hn hk a0 a1 a2 a3 a4 a5 a6 a7 a8 a9 a10 a11 a12 a13 a14 a15 a16 a17 a18 a19 a20 a21 a22 a23 a24 a25 a26 a27 a28 a29 a30 a31 a32 a33 a34 a35 a36 a37 a38 a39 ab z4 v0 v1 v20 v21 v22 v25 v46 v47 v5 v6 v7 v8 v9 v10 v18 v26 v27 v28 v29 v30 v31 v32 v33 v34 v35 v36 v37 v38 v45 hst hX FU _ _ _ _ _ _ _ _ _ _ _ _ _ _ _ _ _ _ _ h (fun k579 n580 mc581 ms582 hk w560 w561 w562 w563 w564 w565 w566 w567 w568 w569 w570 w571 w572 w573 w574 w575 w576 w577 w578 h => ?_)
          refine xw_iinc hf (pc := 2681) dL_law_2681 (v := z4 + 5) 4 rfl rfl [(4, .int (z4 + 5)), (0, .ref ab), (1, .ref a0), (2, .ref a27), (3, .ref a38)] hn (by decide) rfl ?_
          refine xw_goto hf (pc := 2684) dL_law_2684 (tgt := 23) rfl ?_
          refine xw_L [1, 2, 3, 4, 0] rfl ?_
          exact ih hk _ _ _ _ _ _ _ _ _ _ _ _ _ _ _ _ _ _ _ _ _ _ _ _ _ _ _ _ _ _ _ _ _ _ _ _ _ _ _ _ _ _ _ _ _ _ h
        · have e : (2002 : Nat) = t := Option.some.inj ht
          subst e
          have h := h.2.2.2.2.2.2.2.2.2.2.2.2.2.2.2.2.2.2.2.2.2.2.2.2.2.1 hv
          refine xw_L [0, 1, 2, 3, 4] rfl ?_
          refine w_L_law_L2002 hf hn hk a0 a1 a2 a3 a4 a5 a6 a7 a8 a9 a10 a11 a12 a13 a14 a15 a16 a17 a18 a19 a20 a21 a22 a23 a24 a25 a26 a27 a28 a29 a30 a31 a32 a33 a34 a35 a36 a37 a38 a39 ab z4 v0 v1 v20 v21 v22 v25 v46 v47 v5 v6 v7 v8 v9 v10 v18 v26 v27 v28 v29 v30 v31 v32 v33 v34 v35 v36 v37 v38 v45 hst hX FU _ _ _ _ _ _ _ _ _ _ _ _ _ _ _ _ _ _ _ h (fun k626 n627 mc628 ms629 hk w607 w608 w609 w610 w611 w612 w613 w614 w615 w616 w617 w618 w619 w620 w621 w622 w623 w624 w625 h => ?_)
          refine xw_iinc hf (pc := 2681) dL_law_2681 (v := z4 + 5) 4 rfl rfl [(4, .int (z4 + 5)), (0, .ref ab), (1, .ref a0), (2, .ref a27), (3, .ref a38)] hn (by decide) rfl ?_
          refine xw_goto hf (pc := 2684) dL_law_2684 (tgt := 23) rfl ?_
          refine xw_L [1, 2, 3, 4, 0] rfl ?_
          exact ih hk _ _ _ _ _ _ _ _ _ _ _ _ _ _ _ _ _ _ _ _ _ _ _ _ _ _ _ _ _ _ _ _ _ _ _ _ _ _ _ _ _ _ _ _ _ _ h
        · have e : (2113 : Nat) = t := Option.some.inj ht
          subst e
          have h := h.2.2.2.2.2.2.2.2.2.2.2.2.2.2.2.2.2.2.2.2.2.2.2.2.2.2.1 hv
          refine xw_L [0, 1, 2, 3, 4] rfl ?_
          refine w_L_law_L2113 hf hn hk a0 a1 a2 a3 a4 a5 a6 a7 a8 a9 a10 a11 a12 a13 a14 a15 a16 a17 a18 a19 a20 a21 a22 a23 a24 a25 a26 a27 a28 a29 a30 a31 a32 a33 a34 a35 a36 a37 a38 a39 ab z4 v0 v1 v20 v21 v22 v25 v46 v47 v5 v6 v7 v8 v9 v10 v18 v26 v27 v28 v29 v30 v31 v32 v33 v34 v35 v36 v37 v38 v45 hst hX FU _ _ _ _ _ _ _ _ _ _ _ _ _ _ _ _ _ _ _ h (fun k673 n674 mc675 ms676 hk w654 w655 w656 w657 w658 w659 w660 w661 w662 w663 w664 w665 w666 w667 w668 w669 w670 w671 w672 h => ?_)
          refine xw_iinc hf (pc := 2681) dL_law_2681 (v := z4 + 5) 4 rfl rfl [(4, .int (z4 + 5)), (0, .ref ab), (1, .ref a0), (2, .ref a27), (3, .ref a38)] hn (by decide) rfl ?_
          refine xw_goto hf (pc := 2684) dL_law_2684 (tgt := 23) rfl ?_
          refine xw_L [1, 2, 3, 4, 0] rfl ?_
          exact ih hk _ _ _ _ _ _ _ _ _ _ _ _ _ _ _ _ _ _ _ _ _ _ _ _ _ _ _ _ _ _ _ _ _ _ _ _ _ _ _ _ _ _ _ _ _ _ h
        · have e : (2213 : Nat) = t := Option.some.inj ht
          subst e
          have h := h.2.2.2.2.2.2.2.2.2.2.2.2.2.2.2.2.2.2.2.2.2.2.2.2.2.2.2.1 hv
          refine xw_L [0, 1, 2, 3, 4] rfl ?_
          refine w_L_law_L2213 hf hn hk a0 a1 a2 a3 a4 a5 a6 a7 a8 a9 a10 a11 a12 a13 a14 a15 a16 a17 a18 a19 a20 a21 a22 a23 a24 a25 a26 a27 a28 a29 a30 a31 a32 a33 a34 a35 a36 a37 a38 a39 ab z4 v0 v1 v20 v25 v46 v47 v6 v7 v18 v27 hst hX FU _ _ _ _ _ _ _ _ _ _ _ _ _ _ _ _ _ _ _ _ _ _ _ _ _ _ _ _ _ _ _ _ _ _ _ _ _ _ h (fun k764 n765 mc766 ms767 hk w726 w727 w728 w729 w730 w731 w732 w733 w734 w735 w736 w737 w738 w739 w740 w741 w742 w743 w744 w745 w746 w747 w748 w749 w750 w751 w752 w753 w754 w755 w756 w757 w758 w759 w760 w761 w762 w763 h => ?_)
          refine xw_iinc hf (pc := 2681) dL_law_2681 (v := z4 + 5) 4 rfl rfl [(4, .int (z4 + 5)), (0, .ref ab), (1, .ref a0), (2, .ref a27), (3, .ref a38)] hn (by decide) rfl ?_
          refine xw_goto hf (pc := 2684) dL_law_2684 (tgt := 23) rfl ?_
          refine xw_L [1, 2, 3, 4, 0] rfl ?_
          exact ih hk _ _ _ _ _ _ _ _ _ _ _ _ _ _ _ _ _ _ _ _ _ _ _ _ _ _ _ _ _ _ _ _ _ _ _ _ _ _ _ _ _ _ _ _ _ _ h
        · have e : (2313 : Nat) = t := Option.some.inj ht
          subst e
          have h := h.2.2.2.2.2.2.2.2.2.2.2.2.2.2.2.2.2.2.2.2.2.2.2.2.2.2.2.2.1 hv
          refine xw_L [0, 1, 2, 3, 4] rfl ?_
          refine w_L_law_L2313 hf hn hk a0 a1 a2 a3 a4 a5 a6 a7 a8 a9 a10 a11 a12 a13 a14 a15 a16 a17 a18 a19 a20 a21 a22 a23 a24 a25 a26 a27 a28 a29 a30 a31 a32 a33 a34 a35 a36 a37 a38 a39 ab z4 v8 v20 v21 v22 v23 v24 v45 v0 v1 v2 v3 v4 v5 v6 v7 v9 v10 v11 v12 v13 v14 v15 v16 v17 v18 v25 v26 v27 v28 v29 v30 v31 v32 v33 v34 v35 v36 v37 v38 v39 v40 v41 v42 v43 v44 v46 v47 hst hX FU _ h (fun k772 n773 mc774 ms775 hk w771 h => ?_)
          refine xw_iinc hf (pc := 2681) dL_law_2681 (v := z4 + 5) 4 rfl rfl [(4, .int (z4 + 5)), (0, .ref ab), (1, .ref a0), (2, .ref a27), (3, .ref a38)] hn (by decide) rfl ?_
          refine xw_goto hf (pc := 2684) dL_law_2684 (tgt := 23) rfl ?_
          refine xw_L [1, 2, 3, 4, 0] rfl ?_
          exact ih hk _ _ _ _ _ _ _ _ _ _ _ _ _ _ _ _ _ _ _ _ _ _ _ _ _ _ _ _ _ _ _ _ _ _ _ _ _ _ _ _ _ _ _ _ _ _ h
        · have e : (2326 : Nat) = t := Option.some.inj ht
          subst e
          have h := h.2.2.2.2.2.2.2.2.2.2.2.2.2.2.2.2.2.2.2.2.2.2.2.2.2.2.2.2.2.1 hv
          refine xw_L [0, 1, 2, 3, 4] rfl ?_
          refine w_L_law_L2326 hf hn hk a0 a1 a2 a3 a4 a5 a6 a7 a8 a9 a10 a11 a12 a13 a14 a15 a16 a17 a18 a19 a20 a21 a22 a23 a24 a25 a26 a27 a28 a29 a30 a31 a32 a33 a34 a35 a36 a37 a38 a39 ab z4 v8 v20 v21 v22 v23 v24 v30 v31 v32 v45 v46 v47 v0 v1 v2 v3 v4 v5 v6 v7 v9 v10 v11 v12 v13 v14 v15 v16 v17 v18 v25 v26 v27 v28 v29 v33 v34 v35 v36 v37 v38 v39 v40 v41 v42 v43 hst hX FU _ _ h (fun k785 n786 mc787 ms788 hk w783 w784 h => ?_)
          refine xw_iinc hf (pc := 2681) dL_law_2681 (v := z4 + 5) 4 rfl rfl [(4, .int (z4 + 5)), (0, .ref ab), (1, .ref a0), (2, .ref a27), (3, .ref a38)] hn (by decide) rfl ?_
          refine xw_goto hf (pc := 2684) dL_law_2684 (tgt := 23) rfl ?_
          refine xw_L [1, 2, 3, 4, 0] rfl ?_
          exact ih hk _ _ _ _ _ _ _ _ _ _ _ _ _ _ _ _ _ _ _ _ _ _ _ _ _ _ _ _ _ _ _ _ _ _ _ _ _ _ _ _ _ _ _ _ _ _ h
        · have e : (2381 : Nat) = t := Option.some.inj ht
          subst e
          have h := h.2.2.2.2.2.2.2.2.2.2.2.2.2.2.2.2.2.2.2.2.2.2.2.2.2.2.2.2.2.2.1 hv
          refine xw_L [0, 1, 2, 3, 4] rfl ?_
          refine w_L_law_L2381 hf hn hk a0 a1 a2 a3 a4 a5 a6 a7 a8 a9 a10 a11 a12 a13 a14 a15 a16 a17 a18 a19 a20 a21 a22 a23 a24 a25 a26 a27 a28 a29 a30 a31 a32 a33 a34 a35 a36 a37 a38 a39 ab z4 v8 v20 v21 v22 v23 v24 v33 v34 v35 v45 v46 v47 v0 v1 v2 v3 v4 v5 v6 v7 v9 v10 v11 v12 v13 v14 v15 v16 v17 v18 v25 v26 v27 v28 v29 v30 v31 v32 v36 v37 v38 v39 v40 v41 v42 v43 hst hX FU _ _ h (fun k798 n799 mc800 ms801 hk w796 w797 h => ?_)
          refine xw_iinc hf (pc := 2681) dL_law_2681 (v := z4 + 5) 4 rfl rfl [(4, .int (z4 + 5)), (0, .ref ab), (1, .ref a0), (2, .ref a27), (3, .ref a38)] hn (by decide) rfl ?_
          refine xw_goto hf (pc := 2684) dL_law_2684 (tgt := 23) rfl ?_
          refine xw_L [1, 2, 3, 4, 0] rfl ?_
          exact ih hk _ _ _ _ _ _ _ _ _ _ _ _ _ _ _ _ _ _ _ _ _ _ _ _ _ _ _ _ _ _ _ _ _ _ _ _ _ _ _ _ _ _ _ _ _ _ h
        · have e : (2437 : Nat) = t := Option.some.inj ht
          subst e
          have h := h.2.2.2.2.2.2.2.2.2.2.2.2.2.2.2.2.2.2.2.2.2.2.2.2.2.2.2.2.2.2.2.1 hv
          refine xw_L [0, 1, 2, 3, 4] rfl ?_
          refine w_L_law_L2437 hf hn hk a0 a1 a2 a3 a4 a5 a6 a7 a8 a9 a10 a11 a12 a13 a14 a15 a16 a17 a18 a19 a20 a21 a22 a23 a24 a25 a26 a27 a28 a29 a30 a31 a32 a33 a34 a35 a36 a37 a38 a39 ab z4 v8 v20 v21 v22 v23 v24 v36 v37 v38 v45 v46 v47 v0 v1 v2 v3 v4 v5 v6 v7 v9 v10 v11 v12 v13 v14 v15 v16 v17 v18 v25 v26 v27 v28 v29 v30 v31 v32 v33 v34 v35 v39 v40 v41 v42 v43 hst hX FU _ _ h (fun k811 n812 mc813 ms814 hk w809 w810 h => ?_)
          refine xw_iinc hf (pc := 2681) dL_law_2681 (v := z4 + 5) 4 rfl rfl [(4, .int (z4 + 5)), (0, .ref ab), (1, .ref a0), (2, .ref a27), (3, .ref a38)] hn (by decide) rfl ?_
          refine xw_goto hf (pc := 2684) dL_law_2684 (tgt := 23) rfl ?_
          refine xw_L [1, 2, 3, 4, 0] rfl ?_
          exact ih hk _ _ _ _ _ _ _ _ _ _ _ _ _ _ _ _ _ _ _ _ _ _ _ _ _ _ _ _ _ _ _ _ _ _ _ _ _ _ _ _ _ _ _ _ _ _ h
        · have e : (2500 : Nat) = t := Option.some.inj ht
          subst e
          have h := h.2.2.2.2.2.2.2.2.2.2.2.2.2.2.2.2.2.2.2.2.2.2.2.2.2.2.2.2.2.2.2.2.1 hv
          refine xw_L [0, 1, 2, 3, 4] rfl ?_
          refine w_L_law_L2500 hf hn hk a0 a1 a2 a3 a4 a5 a6 a7 a8 a9 a10 a11 a12 a13 a14 a15 a16 a17 a18 a19 a20 a21 a22 a23 a24 a25 a26 a27 a28 a29 a30 a31 a32 a33 a34 a35 a36 a37 a38 a39 ab z4 v20 v21 v24 v30 v31 v32 v33 v34 v35 v36 v37 v46 v47 v0 v1 v2 v3 v4 v6 v7 v9 v11 v12 v13 v14 v15 v16 v17 v25 v27 v28 v41 v42 v43 hst hX FU _ _ _ _ _ _ _ _ _ _ _ _ _ _ h (fun k848 n849 mc850 ms851 hk w834 w835 w836 w837 w838 w839 w840 w841 w842 w843 w844 w845 w846 w847 h => ?_)
          refine xw_iinc hf (pc := 2681) dL_law_2681 (v := z4 + 5) 4 rfl rfl [(4, .int (z4 + 5)), (0, .ref ab), (1, .ref a0), (2, .ref a27), (3, .ref a38)] hn (by decide) rfl ?_
          refine xw_goto hf (pc := 2684) dL_law_2684 (tgt := 23) rfl ?_
          refine xw_L [1, 2, 3, 4, 0] rfl ?_
          exact ih hk _ _ _ _ _ _ _ _ _ _ _ _ _ _ _ _ _ _ _ _ _ _ _ _ _ _ _ _ _ _ _ _ _ _ _ _ _ _ _ _ _ _ _ _ _ _ h
        · have e : (2556 : Nat) = t := Option.some.inj ht
          subst e
          have h := h.2.2.2.2.2.2.2.2.2.2.2.2.2.2.2.2.2.2.2.2.2.2.2.2.2.2.2.2.2.2.2.2.2.1 hv
          refine xw_L [0, 1, 2, 3, 4] rfl ?_
          refine w_L_law_L2556 hf hn hk a0 a1 a2 a3 a4 a5 a6 a7 a8 a9 a10 a11 a12 a13 a14 a15 a16 a17 a18 a19 a20 a21 a22 a23 a24 a25 a26 a27 a28 a29 a30 a31 a32 a33 a34 a35 a36 a37 a38 a39 ab z4 v8 v20 v21 v22 v23 v24 v0 v1 v2 v3 v4 v5 v6 v7 v9 v10 v11 v12 v13 v14 v15 v16 v17 v18 v25 v26 v27 v28 v29 v30 v31 v32 v33 v34 v35 v36 v37 v38 v39 v40 v41 v42 v43 v44 v45 v46 v47 hst hX FU _ h (fun k856 n857 mc858 ms859 hk w855 h => ?_)
          refine xw_iinc hf (pc := 2681) dL_law_2681 (v := z4 + 5) 4 rfl rfl [(4, .int (z4 + 5)), (0, .ref ab), (1, .ref a0), (2, .ref a27), (3, .ref a38)] hn (by decide) rfl ?_
          refine xw_goto hf (pc := 2684) dL_law_2684 (tgt := 23) rfl ?_
          refine xw_L [1, 2, 3, 4, 0] rfl ?_
          exact ih hk _ _ _ _ _ _ _ _ _ _ _ _ _ _ _ _ _ _ _ _ _ _ _ _ _ _ _ _ _ _ _ _ _ _ _ _ _ _ _ _ _ _ _ _ _ _ h
        · have e : (2569 : Nat) = t := Option.some.inj ht
          subst e
          have h := h.2.2.2.2.2.2.2.2.2.2.2.2.2.2.2.2.2.2.2.2.2.2.2.2.2.2.2.2.2.2.2.2.2.2.1 hv
          refine xw_L [0, 1, 2, 3, 4] rfl ?_
          refine w_L_law_L2569 hf hn hk a0 a1 a2 a3 a4 a5 a6 a7 a8 a9 a10 a11 a12 a13 a14 a15 a16 a17 a18 a19 a20 a21 a22 a23 a24 a25 a26 a27 a28 a29 a30 a31 a32 a33 a34 a35 a36 a37 a38 a39 ab z4 v8 v9 v20 v21 v22 v23 v24 v28 v46 v47 v0 v1 v2 v3 v4 v5 v6 v7 v10 v11 v12 v13 v14 v15 v16 v17 v18 v25 v26 v27 v29 v30 v31 v32 v33 v34 v35 v36 v37 v38 v39 v40 v41 v42 v43 v45 hst hX FU _ _ h (fun k869 n870 mc871 ms872 hk w867 w868 h => ?_)
          refine xw_iinc hf (pc := 2681) dL_law_2681 (v := z4 + 5) 4 rfl rfl [(4, .int (z4 + 5)), (0, .ref ab), (1, .ref a0), (2, .ref a27), (3, .ref a38)] hn (by decide) rfl ?_
          refine xw_goto hf (pc := 2684) dL_law_2684 (tgt := 23) rfl ?_
          refine xw_L [1, 2, 3, 4, 0] rfl ?_
          exact ih hk _ _ _ _ _ _ _ _ _ _ _ _ _ _ _ _ _ _ _ _ _ _ _ _ _ _ _ _ _ _ _ _ _ _ _ _ _ _ _ _ _ _ _ _ _ _ h
        · have e : (2625 : Nat) = t := Option.some.inj ht
          subst e
          have h := h.2.2.2.2.2.2.2.2.2.2.2.2.2.2.2.2.2.2.2.2.2.2.2.2.2.2.2.2.2.2.2.2.2.2.2.1 hv
          refine xw_L [0, 1, 2, 3, 4] rfl ?_
          refine w_L_law_L2625 hf hn hk a0 a1 a2 a3 a4 a5 a6 a7 a8 a9 a10 a11 a12 a13 a14 a15 a16 a17 a18 a19 a20 a21 a22 a23 a24 a25 a26 a27 a28 a29 a30 a31 a32 a33 a34 a35 a36 a37 a38 a39 ab z4 v8 v10 v20 v21 v22 v23 v24 v29 v46 v47 v0 v1 v2 v3 v4 v5 v6 v7 v9 v11 v12 v13 v14 v15 v16 v17 v18 v25 v26 v27 v28 v30 v31 v32 v33 v34 v35 v36 v37 v38 v39 v40 v41 v42 v43 v45 hst hX FU _ _ h (fun k882 n883 mc884 ms885 hk w880 w881 h => ?_)
          refine xw_iinc hf (pc := 2681) dL_law_2681 (v := z4 + 5) 4 rfl rfl [(4, .int (z4 + 5)), (0, .ref ab), (1, .ref a0), (2, .ref a27), (3, .ref a38)] hn (by decide) rfl ?_
          refine xw_goto hf (pc := 2684) dL_law_2684 (tgt := 23) rfl ?_
          refine xw_L [1, 2, 3, 4, 0] rfl ?_
          exact ih hk _ _ _ _ _ _ _ _ _ _ _ _ _ _ _ _ _ _ _ _ _ _ _ _ _ _ _ _ _ _ _ _ _ _ _ _ _ _ _ _ _ _ _ _ _ _ h
      · have h := h.2.2.2.2.2.2.2.2.2.2.2.2.2.2.2.2.2.2.2.2.2.2.2.2.2.2.2.2.2.2.2.2.2.2.2.2 hv
        refine xw_iinc hf (pc := 2681) dL_law_2681 (v := z4 + 5) 4 rfl rfl [(4, .int (z4 + 5)), (0, .ref ab), (1, .ref a0), (2, .ref a27), (3, .ref a38)] hn (by decide) rfl ?_
        refine xw_goto hf (pc := 2684) dL_law_2684 (tgt := 23) rfl ?_
        refine xw_L [1, 2, 3, 4, 0] rfl ?_
        exact ih hk _ _ _ _ _ _ _ _ _ _ _ _ _ _ _ _ _ _ _ _ _ _ _ _ _ _ _ _ _ _ _ _ _ _ _ _ _ _ _ _ _ _ _ _ _ _ h
