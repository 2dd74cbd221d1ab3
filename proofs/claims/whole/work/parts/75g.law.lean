set_option maxHeartbeats 4000000 in
set_option maxRecDepth 100000 in
theorem w_L_law_L23 {x : Cx} {mc ms : Nat} (hf : fx x (rm_L_law) RL cL_law wsL_law) (hn : xn x = 8) {k0 n0 rc rs : Nat} (hk : k0 + rc ≤ (rm_L_law).cells ∧ n0 + rs ≤ (rm_L_law).slots) (a0 a1 a2 a3 a4 a5 a6 a7 a8 a9 a10 a11 a12 a13 a14 a15 a16 a17 a18 a19 a20 a21 a22 a23 a24 a25 a26 a27 a28 a29 a30 a31 a32 a33 a34 a35 a36 a37 a38 a39 ab : Nat) (v7 : Nat → Int32) (v46 : Nat) (v47 : Nat → Int32) {K2687 : Nat → Nat → Int32 → (Nat → Int64) → Int32 → (Nat → Int64) → (Nat → Int32) → (Nat → Int32) → (Nat → Int32) → Int32 → (Nat → Int32) → (Nat → Int32) → Int32 → Int32 → (Nat → Int32) → Int32 → (Nat → Int64) → Int32 → (Nat → Int64) → (Nat → Int32) → Int32 → Int32 → Int32 → Int32 → Int32 → Int32 → (Nat → Int64) → (Nat → Int32) → (Nat → Int32) → (Nat → Int32) → (Nat → Int32) → Nat → Nat → (Nat → Int64) → Nat → Nat → (Nat → Int32) → Nat → Nat → (Nat → Int32) → (Nat → Int32) → (Nat → Int32) → (Nat → Int32) → (Nat → Int32) → (Nat → Int32) → (Nat → Int64) → ZL → Prop} (hst : (xl x).stackTraces = false) (hX : sX x ab v46 v47)
    (n : Nat) (z4 : Int32) (v0 : Int32) (v1 : Nat → Int64) (v2 : Int32) (v3 : Nat → Int64) (v4 : Nat → Int32) (v5 : Nat → Int32) (v6 : Nat → Int32) (v8 : Int32) (v9 : Nat → Int32) (v10 : Nat → Int32) (v11 : Int32) (v12 : Int32) (v13 : Nat → Int32) (v14 : Int32) (v15 : Nat → Int64) (v16 : Int32) (v17 : Nat → Int64) (v18 : Nat → Int32) (v19 : Int32) (v20 : Int32) (v21 : Int32) (v22 : Int32) (v23 : Int32) (v24 : Int32) (v25 : Nat → Int64) (v26 : Nat → Int32) (v27 : Nat → Int32) (v28 : Nat → Int32) (v29 : Nat → Int32) (v30 : Nat) (v31 : Nat) (v32 : Nat → Int64) (v33 : Nat) (v34 : Nat) (v35 : Nat → Int32) (v36 : Nat) (v37 : Nat) (v38 : Nat → Int32) (v39 : Nat → Int32) (v40 : Nat → Int32) (v41 : Nat → Int32) (v42 : Nat → Int32) (v43 : Nat → Int32) (v44 : Nat → Int64) (v45 : ZL) (h : P_L_law_L23 v7 v46 v47 K2687 n rc rs z4 v0 v1 v2 v3 v4 v5 v6 v8 v9 v10 v11 v12 v13 v14 v15 v16 v17 v18 v19 v20 v21 v22 v23 v24 v25 v26 v27 v28 v29 v30 v31 v32 v33 v34 v35 v36 v37 v38 v39 v40 v41 v42 v43 v44 v45)
    (hK2687 : ∀ (k0 n0 rc rs : Nat), k0 + rc ≤ (rm_L_law).cells ∧ n0 + rs ≤ (rm_L_law).slots → ∀ (uv0 : Int32), ∀ (uv1 : Nat → Int64), ∀ (uv2 : Int32), ∀ (uv3 : Nat → Int64), ∀ (uv4 : Nat → Int32), ∀ (uv5 : Nat → Int32), ∀ (uv6 : Nat → Int32), ∀ (uv8 : Int32), ∀ (uv9 : Nat → Int32), ∀ (uv10 : Nat → Int32), ∀ (uv11 : Int32), ∀ (uv12 : Int32), ∀ (uv13 : Nat → Int32), ∀ (uv14 : Int32), ∀ (uv15 : Nat → Int64), ∀ (uv16 : Int32), ∀ (uv17 : Nat → Int64), ∀ (uv18 : Nat → Int32), ∀ (uv19 : Int32), ∀ (uv20 : Int32), ∀ (uv21 : Int32), ∀ (uv22 : Int32), ∀ (uv23 : Int32), ∀ (uv24 : Int32), ∀ (uv25 : Nat → Int64), ∀ (uv26 : Nat → Int32), ∀ (uv27 : Nat → Int32), ∀ (uv28 : Nat → Int32), ∀ (uv29 : Nat → Int32), ∀ (uv30 : Nat), ∀ (uv31 : Nat), ∀ (uv32 : Nat → Int64), ∀ (uv33 : Nat), ∀ (uv34 : Nat), ∀ (uv35 : Nat → Int32), ∀ (uv36 : Nat), ∀ (uv37 : Nat), ∀ (uv38 : Nat → Int32), ∀ (uv39 : Nat → Int32), ∀ (uv40 : Nat → Int32), ∀ (uv41 : Nat → Int32), ∀ (uv42 : Nat → Int32), ∀ (uv43 : Nat → Int32), ∀ (uv44 : Nat → Int64), ∀ (uv45 : ZL), K2687 rc rs uv0 uv1 uv2 uv3 uv4 uv5 uv6 uv8 uv9 uv10 uv11 uv12 uv13 uv14 uv15 uv16 uv17 uv18 uv19 uv20 uv21 uv22 uv23 uv24 uv25 uv26 uv27 uv28 uv29 uv30 uv31 uv32 uv33 uv34 uv35 uv36 uv37 uv38 uv39 uv40 uv41 uv42 uv43 uv44 uv45 → ww x (W_L_law (xg x) a0 a1 a2 a3 a4 a5 a6 a7 a8 a9 a10 a11 a12 a13 a14 a15 a16 a17 a18 a19 a20 a21 a22 a23 a24 a25 a26 a27 a28 a29 a30 a31 a32 a33 a34 a35 a36 a37 a38 a39 ab uv0 uv1 uv2 uv3 uv4 uv5 uv6 v7 uv8 uv9 uv10 uv11 uv12 uv13 uv14 uv15 uv16 uv17 uv18 uv19 uv20 uv21 uv22 uv23 uv24 uv25 uv26 uv27 uv28 uv29 uv30 uv31 uv32 uv33 uv34 uv35 uv36 uv37 uv38 uv39 uv40 uv41 uv42 uv43 uv44 v46 v47 ++ ZP (xg x) a39 uv45) [] k0 n0 2687 []) :
    ww x (W_L_law (xg x) a0 a1 a2 a3 a4 a5 a6 a7 a8 a9 a10 a11 a12 a13 a14 a15 a16 a17 a18 a19 a20 a21 a22 a23 a24 a25 a26 a27 a28 a29 a30 a31 a32 a33 a34 a35 a36 a37 a38 a39 ab v0 v1 v2 v3 v4 v5 v6 v7 v8 v9 v10 v11 v12 v13 v14 v15 v16 v17 v18 v19 v20 v21 v22 v23 v24 v25 v26 v27 v28 v29 v30 v31 v32 v33 v34 v35 v36 v37 v38 v39 v40 v41 v42 v43 v44 v46 v47 ++ ZP (xg x) a39 v45) [(0, .ref ab), (1, .ref a0), (2, .ref a27), (3, .ref a38), (4, .int z4)] k0 n0 23 [] := by
  induction n generalizing k0 n0 rc rs z4 v0 v1 v2 v3 v4 v5 v6 v8 v9 v10 v11 v12 v13 v14 v15 v16 v17 v18 v19 v20 v21 v22 v23 v24 v25 v26 v27 v28 v29 v30 v31 v32 v33 v34 v35 v36 v37 v38 v39 v40 v41 v42 v43 v44 v45 with
  | zero => exact h.elim
  | succ n ih =>
    unfold P_L_law_L23 at h
    refine xw_iload hf (pc := 23) dL_law_23 4 rfl ?_
    refine xw_aload_n hf (pc := 25) dL_law_25 rfl 0 rfl ?_
    refine xw_slen hf hX dL_law_26 ?_
    refine xw_iconst hf (pc := 27) dL_law_27 (v := 5) (by decide) ?_
    refine xw_isub hf (pc := 28) dL_law_28 ?_
    refine xw_icmp_gt hf (pc := 29) dL_law_29 (tgt := 2687) rfl ⟨fun c => ?_, fun c => ?_⟩
    · have h := h.1 c
      refine xw_L [] rfl ?_
      exact hK2687 _ _ _ _ hk _ _ _ _ _ _ _ _ _ _ _ _ _ _ _ _ _ _ _ _ _ _ _ _ _ _ _ _ _ _ _ _ _ _ _ _ _ _ _ _ _ _ _ _ _ h
    · have h := h.2 c
      refine xw_aload_n hf (pc := 32) dL_law_32 rfl 0 rfl ?_
      refine xw_iload hf (pc := 33) dL_law_33 4 rfl ?_
      refine xw_sald hf hX dL_law_35 h.1 ?_
      have h := h.2
      refine xw_bipush hf (pc := 36) dL_law_36 (v := 63) (by decide) ?_
      refine xw_iand hf (pc := 38) dL_law_38 ?_
      refine xw_tsw hf [196, 284, 372, 385, 440, 535, 623, 722, 735, 823, 922, 1022, 1078, 1091, 1159, 1215, 1271, 1359, 1447, 1535, 1635, 1735, 1791, 1846, 1902, 2002, 2113, 2213, 2313, 2326, 2381, 2437, 2500, 2556, 2569, 2625] dL_law_39 (by decide) rfl (dt := 2681) rfl ⟨fun j hj hv t ht => ?_, fun hv => ?_⟩
      · rcases (show j = 0 ∨ j = 1 ∨ j = 2 ∨ j = 3 ∨ j = 4 ∨ j = 5 ∨ j = 6 ∨ j = 7 ∨ j = 8 ∨ j = 9 ∨ j = 10 ∨ j = 11 ∨ j = 12 ∨ j = 13 ∨ j = 14 ∨ j = 15 ∨ j = 16 ∨ j = 17 ∨ j = 18 ∨ j = 19 ∨ j = 20 ∨ j = 21 ∨ j = 22 ∨ j = 23 ∨ j = 24 ∨ j = 25 ∨ j = 26 ∨ j = 27 ∨ j = 28 ∨ j = 29 ∨ j = 30 ∨ j = 31 ∨ j = 32 ∨ j = 33 ∨ j = 34 ∨ j = 35 by omega) with rfl | rfl | rfl | rfl | rfl | rfl | rfl | rfl | rfl | rfl | rfl | rfl | rfl | rfl | rfl | rfl | rfl | rfl | rfl | rfl | rfl | rfl | rfl | rfl | rfl | rfl | rfl | rfl | rfl | rfl | rfl | rfl | rfl | rfl | rfl | rfl
        · have e : (196 : Nat) = t := Option.some.inj ht
          subst e
          have h := h.1 hv
          refine xw_L [0, 1, 2, 3, 4] rfl ?_
          refine w_L_law_L196 (mc := mc) (ms := ms) hf hn hk a0 a1 a2 a3 a4 a5 a6 a7 a8 a9 a10 a11 a12 a13 a14 a15 a16 a17 a18 a19 a20 a21 a22 a23 a24 a25 a26 a27 a28 a29 a30 a31 a32 a33 a34 a35 a36 a37 a38 a39 ab z4 v21 v22 v23 v24 v46 v47 v2 v3 v4 v5 v6 v7 v8 v9 v10 v11 v12 v13 v14 v15 v16 v17 v18 v26 v27 v28 v29 v30 v31 v32 v33 v34 v35 v36 v37 v38 v39 v40 v41 v42 v43 v45 hst hX FU _ _ _ _ _ _ h (fun k18 n19 mc20 ms21 hk w12 w13 w14 w15 w16 w17 h => ?_)
          refine xw_iinc hf (pc := 2681) dL_law_2681 (v := z4 + 5) 4 rfl rfl [(4, .int (z4 + 5)), (0, .ref ab), (1, .ref a0), (2, .ref a27), (3, .ref a38)] hn (by decide) rfl ?_
          refine xw_goto hf (pc := 2684) dL_law_2684 (tgt := 23) rfl ?_
          refine xw_L [1, 2, 3, 4, 0] rfl ?_
          exact ih hk _ _ _ _ _ _ _ _ _ _ _ _ _ _ _ _ _ _ _ _ _ _ _ _ _ _ _ _ _ _ _ _ _ _ _ _ _ _ _ _ _ _ _ _ _ _ h
        · have e : (284 : Nat) = t := Option.some.inj ht
          subst e
          have h := h.2.1 hv
          refine xw_L [0, 1, 2, 3, 4] rfl ?_
          refine w_L_law_L284 (mc := mc) (ms := ms) hf hn hk a0 a1 a2 a3 a4 a5 a6 a7 a8 a9 a10 a11 a12 a13 a14 a15 a16 a17 a18 a19 a20 a21 a22 a23 a24 a25 a26 a27 a28 a29 a30 a31 a32 a33 a34 a35 a36 a37 a38 a39 ab z4 v21 v22 v23 v24 v46 v47 v2 v3 v4 v5 v6 v7 v8 v9 v10 v11 v12 v13 v14 v15 v16 v17 v18 v26 v27 v28 v29 v30 v31 v32 v33 v34 v35 v36 v37 v38 v39 v40 v41 v42 v43 v45 hst hX FU _ _ _ _ _ _ h (fun k39 n40 mc41 ms42 hk w33 w34 w35 w36 w37 w38 h => ?_)
          refine xw_iinc hf (pc := 2681) dL_law_2681 (v := z4 + 5) 4 rfl rfl [(4, .int (z4 + 5)), (0, .ref ab), (1, .ref a0), (2, .ref a27), (3, .ref a38)] hn (by decide) rfl ?_
          refine xw_goto hf (pc := 2684) dL_law_2684 (tgt := 23) rfl ?_
          refine xw_L [1, 2, 3, 4, 0] rfl ?_
          exact ih hk _ _ _ _ _ _ _ _ _ _ _ _ _ _ _ _ _ _ _ _ _ _ _ _ _ _ _ _ _ _ _ _ _ _ _ _ _ _ _ _ _ _ _ _ _ _ h
        · have e : (372 : Nat) = t := Option.some.inj ht
          subst e
          have h := h.2.2.1 hv
          refine xw_L [0, 1, 2, 3, 4] rfl ?_
          refine w_L_law_L372 (mc := mc) (ms := ms) hf hn hk a0 a1 a2 a3 a4 a5 a6 a7 a8 a9 a10 a11 a12 a13 a14 a15 a16 a17 a18 a19 a20 a21 a22 a23 a24 a25 a26 a27 a28 a29 a30 a31 a32 a33 a34 a35 a36 a37 a38 a39 ab z4 v0 v20 v21 v22 v23 v24 v1 v2 v3 v4 v5 v6 v7 v8 v9 v10 v11 v12 v13 v14 v15 v16 v17 v18 v25 v26 v27 v28 v29 v30 v31 v32 v33 v34 v35 v36 v37 v38 v39 v40 v41 v42 v43 v44 v45 v46 v47 hst hX FU _ h (fun k47 n48 mc49 ms50 hk w46 h => ?_)
          refine xw_iinc hf (pc := 2681) dL_law_2681 (v := z4 + 5) 4 rfl rfl [(4, .int (z4 + 5)), (0, .ref ab), (1, .ref a0), (2, .ref a27), (3, .ref a38)] hn (by decide) rfl ?_
          refine xw_goto hf (pc := 2684) dL_law_2684 (tgt := 23) rfl ?_
          refine xw_L [1, 2, 3, 4, 0] rfl ?_
          exact ih hk _ _ _ _ _ _ _ _ _ _ _ _ _ _ _ _ _ _ _ _ _ _ _ _ _ _ _ _ _ _ _ _ _ _ _ _ _ _ _ _ _ _ _ _ _ _ h
        · have e : (385 : Nat) = t := Option.some.inj ht
          subst e
          have h := h.2.2.2.1 hv
          refine xw_L [0, 1, 2, 3, 4] rfl ?_
          refine w_L_law_L385 (mc := mc) (ms := ms) hf hn hk a0 a1 a2 a3 a4 a5 a6 a7 a8 a9 a10 a11 a12 a13 a14 a15 a16 a17 a18 a19 a20 a21 a22 a23 a24 a25 a26 a27 a28 a29 a30 a31 a32 a33 a34 a35 a36 a37 a38 a39 ab z4 v0 v1 v20 v21 v22 v23 v24 v25 v40 v46 v47 v2 v3 v4 v5 v6 v7 v8 v9 v10 v11 v12 v13 v14 v15 v16 v17 v18 v26 v27 v28 v29 v30 v31 v32 v33 v34 v35 v36 v37 v38 v39 v41 v42 v43 v45 hst hX FU _ _ h (fun k60 n61 mc62 ms63 hk w58 w59 h => ?_)
          refine xw_iinc hf (pc := 2681) dL_law_2681 (v := z4 + 5) 4 rfl rfl [(4, .int (z4 + 5)), (0, .ref ab), (1, .ref a0), (2, .ref a27), (3, .ref a38)] hn (by decide) rfl ?_
          refine xw_goto hf (pc := 2684) dL_law_2684 (tgt := 23) rfl ?_
          refine xw_L [1, 2, 3, 4, 0] rfl ?_
          exact ih hk _ _ _ _ _ _ _ _ _ _ _ _ _ _ _ _ _ _ _ _ _ _ _ _ _ _ _ _ _ _ _ _ _ _ _ _ _ _ _ _ _ _ _ _ _ _ h
        · have e : (440 : Nat) = t := Option.some.inj ht
          subst e
          have h := h.2.2.2.2.1 hv
          refine xw_L [0, 1, 2, 3, 4] rfl ?_
          refine w_L_law_L440 (mc := mc) (ms := ms) hf hn hk a0 a1 a2 a3 a4 a5 a6 a7 a8 a9 a10 a11 a12 a13 a14 a15 a16 a17 a18 a19 a20 a21 a22 a23 a24 a25 a26 a27 a28 a29 a30 a31 a32 a33 a34 a35 a36 a37 a38 a39 ab z4 v0 v1 v20 v21 v22 v23 v24 v25 v46 v47 v2 v3 v4 v5 v6 v7 v8 v9 v10 v11 v12 v13 v14 v15 v16 v17 v18 v26 v27 v28 v29 v30 v31 v32 v33 v34 v35 v36 v37 v38 v39 v40 v41 v42 v43 v45 hst hX FU _ _ h (fun k73 n74 mc75 ms76 hk w71 w72 h => ?_)
          refine xw_iinc hf (pc := 2681) dL_law_2681 (v := z4 + 5) 4 rfl rfl [(4, .int (z4 + 5)), (0, .ref ab), (1, .ref a0), (2, .ref a27), (3, .ref a38)] hn (by decide) rfl ?_
          refine xw_goto hf (pc := 2684) dL_law_2684 (tgt := 23) rfl ?_
          refine xw_L [1, 2, 3, 4, 0] rfl ?_
          exact ih hk _ _ _ _ _ _ _ _ _ _ _ _ _ _ _ _ _ _ _ _ _ _ _ _ _ _ _ _ _ _ _ _ _ _ _ _ _ _ _ _ _ _ _ _ _ _ h
        · have e : (535 : Nat) = t := Option.some.inj ht
          subst e
          have h := h.2.2.2.2.2.1 hv
          refine xw_L [0, 1, 2, 3, 4] rfl ?_
          refine w_L_law_L535 (mc := mc) (ms := ms) hf hn hk a0 a1 a2 a3 a4 a5 a6 a7 a8 a9 a10 a11 a12 a13 a14 a15 a16 a17 a18 a19 a20 a21 a22 a23 a24 a25 a26 a27 a28 a29 a30 a31 a32 a33 a34 a35 a36 a37 a38 a39 ab z4 v0 v1 v20 v21 v22 v24 v25 v46 v47 v5 v6 v7 v8 v9 v10 v11 v12 v13 v14 v15 v16 v17 v18 v26 v27 v28 v29 v30 v31 v32 v33 v34 v35 v36 v37 v38 v41 v42 v43 v45 hst hX FU _ _ _ _ _ _ _ _ h (fun k98 n99 mc100 ms101 hk w90 w91 w92 w93 w94 w95 w96 w97 h => ?_)
          refine xw_iinc hf (pc := 2681) dL_law_2681 (v := z4 + 5) 4 rfl rfl [(4, .int (z4 + 5)), (0, .ref ab), (1, .ref a0), (2, .ref a27), (3, .ref a38)] hn (by decide) rfl ?_
          refine xw_goto hf (pc := 2684) dL_law_2684 (tgt := 23) rfl ?_
          refine xw_L [1, 2, 3, 4, 0] rfl ?_
          exact ih hk _ _ _ _ _ _ _ _ _ _ _ _ _ _ _ _ _ _ _ _ _ _ _ _ _ _ _ _ _ _ _ _ _ _ _ _ _ _ _ _ _ _ _ _ _ _ h
        · have e : (623 : Nat) = t := Option.some.inj ht
          subst e
          have h := h.2.2.2.2.2.2.1 hv
          refine xw_L [0, 1, 2, 3, 4] rfl ?_
          refine w_L_law_L623 (mc := mc) (ms := ms) hf hn hk a0 a1 a2 a3 a4 a5 a6 a7 a8 a9 a10 a11 a12 a13 a14 a15 a16 a17 a18 a19 a20 a21 a22 a23 a24 a25 a26 a27 a28 a29 a30 a31 a32 a33 a34 a35 a36 a37 a38 a39 ab z4 v0 v1 v20 v21 v22 v24 v25 v46 v47 v5 v6 v7 v8 v9 v10 v11 v12 v13 v14 v15 v16 v17 v18 v26 v27 v28 v29 v30 v31 v32 v33 v34 v35 v36 v37 v38 v41 v42 v43 v45 hst hX FU _ _ _ _ _ _ _ _ h (fun k123 n124 mc125 ms126 hk w115 w116 w117 w118 w119 w120 w121 w122 h => ?_)
          refine xw_iinc hf (pc := 2681) dL_law_2681 (v := z4 + 5) 4 rfl rfl [(4, .int (z4 + 5)), (0, .ref ab), (1, .ref a0), (2, .ref a27), (3, .ref a38)] hn (by decide) rfl ?_
          refine xw_goto hf (pc := 2684) dL_law_2684 (tgt := 23) rfl ?_
          refine xw_L [1, 2, 3, 4, 0] rfl ?_
          exact ih hk _ _ _ _ _ _ _ _ _ _ _ _ _ _ _ _ _ _ _ _ _ _ _ _ _ _ _ _ _ _ _ _ _ _ _ _ _ _ _ _ _ _ _ _ _ _ h
        · have e : (722 : Nat) = t := Option.some.inj ht
          subst e
          have h := h.2.2.2.2.2.2.2.1 hv
          refine xw_L [0, 1, 2, 3, 4] rfl ?_
          refine w_L_law_L722 (mc := mc) (ms := ms) hf hn hk a0 a1 a2 a3 a4 a5 a6 a7 a8 a9 a10 a11 a12 a13 a14 a15 a16 a17 a18 a19 a20 a21 a22 a23 a24 a25 a26 a27 a28 a29 a30 a31 a32 a33 a34 a35 a36 a37 a38 a39 ab z4 v0 v1 v20 v21 v22 v24 v25 v5 v6 v7 v8 v9 v10 v11 v12 v13 v14 v15 v16 v17 v18 v26 v27 v28 v29 v30 v31 v32 v33 v34 v35 v36 v37 v38 v41 v42 v43 v44 v45 v46 v47 hst hX FU _ _ _ _ _ _ _ h (fun k143 n144 mc145 ms146 hk w136 w137 w138 w139 w140 w141 w142 h => ?_)
          refine xw_iinc hf (pc := 2681) dL_law_2681 (v := z4 + 5) 4 rfl rfl [(4, .int (z4 + 5)), (0, .ref ab), (1, .ref a0), (2, .ref a27), (3, .ref a38)] hn (by decide) rfl ?_
          refine xw_goto hf (pc := 2684) dL_law_2684 (tgt := 23) rfl ?_
          refine xw_L [1, 2, 3, 4, 0] rfl ?_
          exact ih hk _ _ _ _ _ _ _ _ _ _ _ _ _ _ _ _ _ _ _ _ _ _ _ _ _ _ _ _ _ _ _ _ _ _ _ _ _ _ _ _ _ _ _ _ _ _ h
        · have e : (735 : Nat) = t := Option.some.inj ht
          subst e
          have h := h.2.2.2.2.2.2.2.2.1 hv
          refine xw_L [0, 1, 2, 3, 4] rfl ?_
          refine w_L_law_L735 (mc := mc) (ms := ms) hf hn hk a0 a1 a2 a3 a4 a5 a6 a7 a8 a9 a10 a11 a12 a13 a14 a15 a16 a17 a18 a19 a20 a21 a22 a23 a24 a25 a26 a27 a28 a29 a30 a31 a32 a33 a34 a35 a36 a37 a38 a39 ab z4 v0 v1 v20 v21 v22 v24 v25 v46 v47 v5 v6 v7 v8 v9 v10 v11 v12 v13 v14 v15 v16 v17 v18 v26 v27 v28 v29 v30 v31 v32 v33 v34 v35 v36 v37 v38 v41 v42 v43 v45 hst hX FU _ _ _ _ _ _ _ _ h (fun k168 n169 mc170 ms171 hk w160 w161 w162 w163 w164 w165 w166 w167 h => ?_)
          refine xw_iinc hf (pc := 2681) dL_law_2681 (v := z4 + 5) 4 rfl rfl [(4, .int (z4 + 5)), (0, .ref ab), (1, .ref a0), (2, .ref a27), (3, .ref a38)] hn (by decide) rfl ?_
          refine xw_goto hf (pc := 2684) dL_law_2684 (tgt := 23) rfl ?_
          refine xw_L [1, 2, 3, 4, 0] rfl ?_
          exact ih hk _ _ _ _ _ _ _ _ _ _ _ _ _ _ _ _ _ _ _ _ _ _ _ _ _ _ _ _ _ _ _ _ _ _ _ _ _ _ _ _ _ _ _ _ _ _ h
        · have e : (823 : Nat) = t := Option.some.inj ht
          subst e
          have h := h.2.2.2.2.2.2.2.2.2.1 hv
          refine xw_L [0, 1, 2, 3, 4] rfl ?_
          refine w_L_law_L823 (mc := mc) (ms := ms) hf hn hk a0 a1 a2 a3 a4 a5 a6 a7 a8 a9 a10 a11 a12 a13 a14 a15 a16 a17 a18 a19 a20 a21 a22 a23 a24 a25 a26 a27 a28 a29 a30 a31 a32 a33 a34 a35 a36 a37 a38 a39 ab z4 v0 v1 v20 v21 v22 v24 v25 v46 v47 v5 v6 v7 v8 v9 v10 v11 v12 v13 v14 v15 v16 v17 v18 v26 v27 v28 v29 v30 v31 v32 v33 v34 v35 v36 v37 v38 v41 v42 v43 v45 hst hX FU _ _ _ _ _ _ _ _ h (fun k193 n194 mc195 ms196 hk w185 w186 w187 w188 w189 w190 w191 w192 h => ?_)
          refine xw_iinc hf (pc := 2681) dL_law_2681 (v := z4 + 5) 4 rfl rfl [(4, .int (z4 + 5)), (0, .ref ab), (1, .ref a0), (2, .ref a27), (3, .ref a38)] hn (by decide) rfl ?_
          refine xw_goto hf (pc := 2684) dL_law_2684 (tgt := 23) rfl ?_
          refine xw_L [1, 2, 3, 4, 0] rfl ?_
          exact ih hk _ _ _ _ _ _ _ _ _ _ _ _ _ _ _ _ _ _ _ _ _ _ _ _ _ _ _ _ _ _ _ _ _ _ _ _ _ _ _ _ _ _ _ _ _ _ h
        · have e : (922 : Nat) = t := Option.some.inj ht
          subst e
          have h := h.2.2.2.2.2.2.2.2.2.2.1 hv
          refine xw_L [0, 1, 2, 3, 4] rfl ?_
          refine w_L_law_L922 (mc := mc) (ms := ms) hf hn hk a0 a1 a2 a3 a4 a5 a6 a7 a8 a9 a10 a11 a12 a13 a14 a15 a16 a17 a18 a19 a20 a21 a22 a23 a24 a25 a26 a27 a28 a29 a30 a31 a32 a33 a34 a35 a36 a37 a38 a39 ab z4 v8 v20 v21 v22 v24 v46 v47 v0 v1 v2 v3 v4 v6 v7 v10 v11 v12 v13 v14 v15 v16 v17 v25 v27 v29 v30 v31 v32 v33 v34 v35 v36 v37 v38 v41 v42 v43 v45 hst hX FU _ _ _ _ _ _ _ _ _ _ h (fun k222 n223 mc224 ms225 hk w212 w213 w214 w215 w216 w217 w218 w219 w220 w221 h => ?_)
          refine xw_iinc hf (pc := 2681) dL_law_2681 (v := z4 + 5) 4 rfl rfl [(4, .int (z4 + 5)), (0, .ref ab), (1, .ref a0), (2, .ref a27), (3, .ref a38)] hn (by decide) rfl ?_
          refine xw_goto hf (pc := 2684) dL_law_2684 (tgt := 23) rfl ?_
          refine xw_L [1, 2, 3, 4, 0] rfl ?_
          exact ih hk _ _ _ _ _ _ _ _ _ _ _ _ _ _ _ _ _ _ _ _ _ _ _ _ _ _ _ _ _ _ _ _ _ _ _ _ _ _ _ _ _ _ _ _ _ _ h
        · have e : (1022 : Nat) = t := Option.some.inj ht
          subst e
          have h := h.2.2.2.2.2.2.2.2.2.2.2.1 hv
          refine xw_L [0, 1, 2, 3, 4] rfl ?_
          refine w_L_law_L1022 (mc := mc) (ms := ms) hf hn hk a0 a1 a2 a3 a4 a5 a6 a7 a8 a9 a10 a11 a12 a13 a14 a15 a16 a17 a18 a19 a20 a21 a22 a23 a24 a25 a26 a27 a28 a29 a30 a31 a32 a33 a34 a35 a36 a37 a38 a39 ab z4 v5 v20 v21 v22 v23 v24 v26 v46 v47 v0 v1 v2 v3 v4 v6 v7 v8 v9 v10 v11 v12 v13 v14 v15 v16 v17 v18 v25 v27 v28 v29 v30 v31 v32 v33 v34 v35 v36 v37 v38 v39 v40 v41 v42 v43 v45 hst hX FU _ _ h (fun k235 n236 mc237 ms238 hk w233 w234 h => ?_)
          refine xw_iinc hf (pc := 2681) dL_law_2681 (v := z4 + 5) 4 rfl rfl [(4, .int (z4 + 5)), (0, .ref ab), (1, .ref a0), (2, .ref a27), (3, .ref a38)] hn (by decide) rfl ?_
          refine xw_goto hf (pc := 2684) dL_law_2684 (tgt := 23) rfl ?_
          refine xw_L [1, 2, 3, 4, 0] rfl ?_
          exact ih hk _ _ _ _ _ _ _ _ _ _ _ _ _ _ _ _ _ _ _ _ _ _ _ _ _ _ _ _ _ _ _ _ _ _ _ _ _ _ _ _ _ _ _ _ _ _ h
        · have e : (1078 : Nat) = t := Option.some.inj ht
          subst e
          have h := h.2.2.2.2.2.2.2.2.2.2.2.2.1 hv
          refine xw_L [0, 1, 2, 3, 4] rfl ?_
          refine w_L_law_L1078 (mc := mc) (ms := ms) hf hn hk a0 a1 a2 a3 a4 a5 a6 a7 a8 a9 a10 a11 a12 a13 a14 a15 a16 a17 a18 a19 a20 a21 a22 a23 a24 a25 a26 a27 a28 a29 a30 a31 a32 a33 a34 a35 a36 a37 a38 a39 ab z4 v5 v20 v21 v22 v23 v24 v26 v0 v1 v2 v3 v4 v6 v7 v8 v9 v10 v11 v12 v13 v14 v15 v16 v17 v18 v25 v27 v28 v29 v30 v31 v32 v33 v34 v35 v36 v37 v38 v39 v40 v41 v42 v43 v44 v45 v46 v47 hst hX FU _ h (fun k243 n244 mc245 ms246 hk w242 h => ?_)
          refine xw_iinc hf (pc := 2681) dL_law_2681 (v := z4 + 5) 4 rfl rfl [(4, .int (z4 + 5)), (0, .ref ab), (1, .ref a0), (2, .ref a27), (3, .ref a38)] hn (by decide) rfl ?_
          refine xw_goto hf (pc := 2684) dL_law_2684 (tgt := 23) rfl ?_
          refine xw_L [1, 2, 3, 4, 0] rfl ?_
          exact ih hk _ _ _ _ _ _ _ _ _ _ _ _ _ _ _ _ _ _ _ _ _ _ _ _ _ _ _ _ _ _ _ _ _ _ _ _ _ _ _ _ _ _ _ _ _ _ h
        · have e : (1091 : Nat) = t := Option.some.inj ht
          subst e
          have h := h.2.2.2.2.2.2.2.2.2.2.2.2.2.1 hv
          refine xw_L [0, 1, 2, 3, 4] rfl ?_
          refine w_L_law_L1091 (mc := mc) (ms := ms) hf hn hk a0 a1 a2 a3 a4 a5 a6 a7 a8 a9 a10 a11 a12 a13 a14 a15 a16 a17 a18 a19 a20 a21 a22 a23 a24 a25 a26 a27 a28 a29 a30 a31 a32 a33 a34 a35 a36 a37 a38 a39 ab z4 v20 v21 v22 v23 v24 v46 v47 v0 v1 v2 v3 v4 v5 v7 v8 v9 v10 v11 v12 v13 v14 v15 v16 v17 v18 v25 v26 v28 v29 v30 v31 v32 v33 v34 v35 v36 v37 v38 v39 v40 v41 v42 v43 v45 hst hX FU _ _ _ _ h (fun k260 n261 mc262 ms263 hk w256 w257 w258 w259 h => ?_)
          refine xw_iinc hf (pc := 2681) dL_law_2681 (v := z4 + 5) 4 rfl rfl [(4, .int (z4 + 5)), (0, .ref ab), (1, .ref a0), (2, .ref a27), (3, .ref a38)] hn (by decide) rfl ?_
          refine xw_goto hf (pc := 2684) dL_law_2684 (tgt := 23) rfl ?_
          refine xw_L [1, 2, 3, 4, 0] rfl ?_
          exact ih hk _ _ _ _ _ _ _ _ _ _ _ _ _ _ _ _ _ _ _ _ _ _ _ _ _ _ _ _ _ _ _ _ _ _ _ _ _ _ _ _ _ _ _ _ _ _ h
        · have e : (1159 : Nat) = t := Option.some.inj ht
          subst e
          have h := h.2.2.2.2.2.2.2.2.2.2.2.2.2.2.1 hv
          refine xw_L [0, 1, 2, 3, 4] rfl ?_
          refine w_L_law_L1159 (mc := mc) (ms := ms) hf hn hk a0 a1 a2 a3 a4 a5 a6 a7 a8 a9 a10 a11 a12 a13 a14 a15 a16 a17 a18 a19 a20 a21 a22 a23 a24 a25 a26 a27 a28 a29 a30 a31 a32 a33 a34 a35 a36 a37 a38 a39 ab z4 v6 v20 v21 v22 v23 v24 v27 v46 v47 v0 v1 v2 v3 v4 v5 v7 v8 v9 v10 v11 v12 v13 v14 v15 v16 v17 v18 v25 v26 v28 v29 v30 v31 v32 v33 v34 v35 v36 v37 v38 v39 v40 v41 v42 v43 v45 hst hX FU _ _ h (fun k273 n274 mc275 ms276 hk w271 w272 h => ?_)
          refine xw_iinc hf (pc := 2681) dL_law_2681 (v := z4 + 5) 4 rfl rfl [(4, .int (z4 + 5)), (0, .ref ab), (1, .ref a0), (2, .ref a27), (3, .ref a38)] hn (by decide) rfl ?_
          refine xw_goto hf (pc := 2684) dL_law_2684 (tgt := 23) rfl ?_
          refine xw_L [1, 2, 3, 4, 0] rfl ?_
          exact ih hk _ _ _ _ _ _ _ _ _ _ _ _ _ _ _ _ _ _ _ _ _ _ _ _ _ _ _ _ _ _ _ _ _ _ _ _ _ _ _ _ _ _ _ _ _ _ h
        · have e : (1215 : Nat) = t := Option.some.inj ht
          subst e
          have h := h.2.2.2.2.2.2.2.2.2.2.2.2.2.2.2.1 hv
          refine xw_L [0, 1, 2, 3, 4] rfl ?_
          refine w_L_law_L1215 (mc := mc) (ms := ms) hf hn hk a0 a1 a2 a3 a4 a5 a6 a7 a8 a9 a10 a11 a12 a13 a14 a15 a16 a17 a18 a19 a20 a21 a22 a23 a24 a25 a26 a27 a28 a29 a30 a31 a32 a33 a34 a35 a36 a37 a38 a39 ab z4 v5 v6 v20 v21 v22 v23 v24 v26 v27 v46 v47 v0 v1 v2 v3 v4 v7 v8 v9 v10 v11 v12 v13 v14 v15 v16 v17 v18 v25 v28 v29 v30 v31 v32 v33 v34 v35 v36 v37 v38 v39 v40 v41 v42 v43 v45 hst hX FU _ _ h (fun k286 n287 mc288 ms289 hk w284 w285 h => ?_)
          refine xw_iinc hf (pc := 2681) dL_law_2681 (v := z4 + 5) 4 rfl rfl [(4, .int (z4 + 5)), (0, .ref ab), (1, .ref a0), (2, .ref a27), (3, .ref a38)] hn (by decide) rfl ?_
          refine xw_goto hf (pc := 2684) dL_law_2684 (tgt := 23) rfl ?_
          refine xw_L [1, 2, 3, 4, 0] rfl ?_
          exact ih hk _ _ _ _ _ _ _ _ _ _ _ _ _ _ _ _ _ _ _ _ _ _ _ _ _ _ _ _ _ _ _ _ _ _ _ _ _ _ _ _ _ _ _ _ _ _ h
        · have e : (1271 : Nat) = t := Option.some.inj ht
          subst e
          have h := h.2.2.2.2.2.2.2.2.2.2.2.2.2.2.2.2.1 hv
          refine xw_L [0, 1, 2, 3, 4] rfl ?_
          refine w_L_law_L1271 (mc := mc) (ms := ms) hf hn hk a0 a1 a2 a3 a4 a5 a6 a7 a8 a9 a10 a11 a12 a13 a14 a15 a16 a17 a18 a19 a20 a21 a22 a23 a24 a25 a26 a27 a28 a29 a30 a31 a32 a33 a34 a35 a36 a37 a38 a39 ab z4 v7 v20 v21 v22 v23 v24 v46 v47 v0 v1 v2 v3 v4 v5 v6 v8 v9 v10 v11 v12 v13 v14 v15 v16 v17 v18 v25 v26 v27 v28 v29 v30 v31 v32 v33 v34 v35 v36 v37 v38 v39 v40 v41 v42 v43 v45 hst hX FU _ _ h (fun k299 n300 mc301 ms302 hk w297 w298 h => ?_)
          refine xw_iinc hf (pc := 2681) dL_law_2681 (v := z4 + 5) 4 rfl rfl [(4, .int (z4 + 5)), (0, .ref ab), (1, .ref a0), (2, .ref a27), (3, .ref a38)] hn (by decide) rfl ?_
          refine xw_goto hf (pc := 2684) dL_law_2684 (tgt := 23) rfl ?_
          refine xw_L [1, 2, 3, 4, 0] rfl ?_
          exact ih hk _ _ _ _ _ _ _ _ _ _ _ _ _ _ _ _ _ _ _ _ _ _ _ _ _ _ _ _ _ _ _ _ _ _ _ _ _ _ _ _ _ _ _ _ _ _ h
        · have e : (1359 : Nat) = t := Option.some.inj ht
          subst e
          have h := h.2.2.2.2.2.2.2.2.2.2.2.2.2.2.2.2.2.1 hv
          refine xw_L [0, 1, 2, 3, 4] rfl ?_
          refine w_L_law_L1359 (mc := mc) (ms := ms) hf hn hk a0 a1 a2 a3 a4 a5 a6 a7 a8 a9 a10 a11 a12 a13 a14 a15 a16 a17 a18 a19 a20 a21 a22 a23 a24 a25 a26 a27 a28 a29 a30 a31 a32 a33 a34 a35 a36 a37 a38 a39 ab z4 v6 v7 v20 v21 v22 v24 v26 v27 v46 v47 v0 v1 v2 v3 v4 v8 v9 v10 v11 v12 v13 v14 v15 v16 v17 v18 v25 v28 v29 v30 v31 v32 v33 v34 v35 v36 v37 v38 v42 v43 v45 hst hX FU _ _ _ _ _ _ _ h (fun k322 n323 mc324 ms325 hk w315 w316 w317 w318 w319 w320 w321 h => ?_)
          refine xw_iinc hf (pc := 2681) dL_law_2681 (v := z4 + 5) 4 rfl rfl [(4, .int (z4 + 5)), (0, .ref ab), (1, .ref a0), (2, .ref a27), (3, .ref a38)] hn (by decide) rfl ?_
          refine xw_goto hf (pc := 2684) dL_law_2684 (tgt := 23) rfl ?_
          refine xw_L [1, 2, 3, 4, 0] rfl ?_
          exact ih hk _ _ _ _ _ _ _ _ _ _ _ _ _ _ _ _ _ _ _ _ _ _ _ _ _ _ _ _ _ _ _ _ _ _ _ _ _ _ _ _ _ _ _ _ _ _ h
        · have e : (1447 : Nat) = t := Option.some.inj ht
          subst e
          have h := h.2.2.2.2.2.2.2.2.2.2.2.2.2.2.2.2.2.2.1 hv
          refine xw_L [0, 1, 2, 3, 4] rfl ?_
          refine w_L_law_L1447 (mc := mc) (ms := ms) hf hn hk a0 a1 a2 a3 a4 a5 a6 a7 a8 a9 a10 a11 a12 a13 a14 a15 a16 a17 a18 a19 a20 a21 a22 a23 a24 a25 a26 a27 a28 a29 a30 a31 a32 a33 a34 a35 a36 a37 a38 a39 ab z4 v5 v20 v21 v22 v24 v26 v46 v47 v0 v1 v2 v3 v4 v6 v7 v8 v9 v10 v11 v12 v13 v14 v15 v16 v17 v18 v25 v27 v28 v29 v30 v31 v32 v33 v34 v35 v36 v37 v38 v41 v42 v43 v45 hst hX FU _ _ _ _ _ h (fun k341 n342 mc343 ms344 hk w336 w337 w338 w339 w340 h => ?_)
          refine xw_iinc hf (pc := 2681) dL_law_2681 (v := z4 + 5) 4 rfl rfl [(4, .int (z4 + 5)), (0, .ref ab), (1, .ref a0), (2, .ref a27), (3, .ref a38)] hn (by decide) rfl ?_
          refine xw_goto hf (pc := 2684) dL_law_2684 (tgt := 23) rfl ?_
          refine xw_L [1, 2, 3, 4, 0] rfl ?_
          exact ih hk _ _ _ _ _ _ _ _ _ _ _ _ _ _ _ _ _ _ _ _ _ _ _ _ _ _ _ _ _ _ _ _ _ _ _ _ _ _ _ _ _ _ _ _ _ _ h
        · have e : (1535 : Nat) = t := Option.some.inj ht
          subst e
          have h := h.2.2.2.2.2.2.2.2.2.2.2.2.2.2.2.2.2.2.2.1 hv
          refine xw_L [0, 1, 2, 3, 4] rfl ?_
          refine w_L_law_L1535 (mc := mc) (ms := ms) hf hn hk a0 a1 a2 a3 a4 a5 a6 a7 a8 a9 a10 a11 a12 a13 a14 a15 a16 a17 a18 a19 a20 a21 a22 a23 a24 a25 a26 a27 a28 a29 a30 a31 a32 a33 a34 a35 a36 a37 a38 a39 ab z4 v0 v1 v6 v7 v20 v21 v22 v24 v25 v26 v27 v46 v47 v2 v3 v4 v8 v9 v10 v11 v12 v13 v14 v15 v16 v17 v18 v28 v29 v30 v31 v32 v33 v34 v35 v36 v37 v38 v42 v43 v45 hst hX FU _ _ _ _ _ _ _ h (fun k364 n365 mc366 ms367 hk w357 w358 w359 w360 w361 w362 w363 h => ?_)
          refine xw_iinc hf (pc := 2681) dL_law_2681 (v := z4 + 5) 4 rfl rfl [(4, .int (z4 + 5)), (0, .ref ab), (1, .ref a0), (2, .ref a27), (3, .ref a38)] hn (by decide) rfl ?_
          refine xw_goto hf (pc := 2684) dL_law_2684 (tgt := 23) rfl ?_
          refine xw_L [1, 2, 3, 4, 0] rfl ?_
          exact ih hk _ _ _ _ _ _ _ _ _ _ _ _ _ _ _ _ _ _ _ _ _ _ _ _ _ _ _ _ _ _ _ _ _ _ _ _ _ _ _ _ _ _ _ _ _ _ h
        · have e : (1635 : Nat) = t := Option.some.inj ht
          subst e
          have h := h.2.2.2.2.2.2.2.2.2.2.2.2.2.2.2.2.2.2.2.2.1 hv
          refine xw_L [0, 1, 2, 3, 4] rfl ?_
          refine w_L_law_L1635 (mc := mc) (ms := ms) hf hn hk a0 a1 a2 a3 a4 a5 a6 a7 a8 a9 a10 a11 a12 a13 a14 a15 a16 a17 a18 a19 a20 a21 a22 a23 a24 a25 a26 a27 a28 a29 a30 a31 a32 a33 a34 a35 a36 a37 a38 a39 ab z4 v0 v1 v6 v7 v20 v24 v25 v27 v46 v47 v2 v3 v4 v9 v11 v12 v13 v14 v15 v16 v17 v18 v28 v42 v43 hst hX FU _ _ _ _ _ _ _ _ _ _ _ _ _ _ _ _ _ _ _ _ _ _ _ h (fun k425 n426 mc427 ms428 hk w402 w403 w404 w405 w406 w407 w408 w409 w410 w411 w412 w413 w414 w415 w416 w417 w418 w419 w420 w421 w422 w423 w424 h => ?_)
          refine xw_iinc hf (pc := 2681) dL_law_2681 (v := z4 + 5) 4 rfl rfl [(4, .int (z4 + 5)), (0, .ref ab), (1, .ref a0), (2, .ref a27), (3, .ref a38)] hn (by decide) rfl ?_
          refine xw_goto hf (pc := 2684) dL_law_2684 (tgt := 23) rfl ?_
          refine xw_L [1, 2, 3, 4, 0] rfl ?_
          exact ih hk _ _ _ _ _ _ _ _ _ _ _ _ _ _ _ _ _ _ _ _ _ _ _ _ _ _ _ _ _ _ _ _ _ _ _ _ _ _ _ _ _ _ _ _ _ _ h
        · have e : (1735 : Nat) = t := Option.some.inj ht
          subst e
          have h := h.2.2.2.2.2.2.2.2.2.2.2.2.2.2.2.2.2.2.2.2.2.1 hv
          refine xw_L [0, 1, 2, 3, 4] rfl ?_
          refine w_L_law_L1735 (mc := mc) (ms := ms) hf hn hk a0 a1 a2 a3 a4 a5 a6 a7 a8 a9 a10 a11 a12 a13 a14 a15 a16 a17 a18 a19 a20 a21 a22 a23 a24 a25 a26 a27 a28 a29 a30 a31 a32 a33 a34 a35 a36 a37 a38 a39 ab z4 v0 v1 v6 v7 v20 v21 v22 v24 v25 v26 v27 v46 v47 v2 v3 v4 v8 v9 v10 v11 v12 v13 v14 v15 v16 v17 v18 v28 v29 v30 v31 v32 v33 v34 v35 v36 v37 v38 v42 v43 v45 hst hX FU _ _ _ _ _ _ _ h (fun k448 n449 mc450 ms451 hk w441 w442 w443 w444 w445 w446 w447 h => ?_)
          refine xw_iinc hf (pc := 2681) dL_law_2681 (v := z4 + 5) 4 rfl rfl [(4, .int (z4 + 5)), (0, .ref ab), (1, .ref a0), (2, .ref a27), (3, .ref a38)] hn (by decide) rfl ?_
          refine xw_goto hf (pc := 2684) dL_law_2684 (tgt := 23) rfl ?_
          refine xw_L [1, 2, 3, 4, 0] rfl ?_
          exact ih hk _ _ _ _ _ _ _ _ _ _ _ _ _ _ _ _ _ _ _ _ _ _ _ _ _ _ _ _ _ _ _ _ _ _ _ _ _ _ _ _ _ _ _ _ _ _ h
        · have e : (1791 : Nat) = t := Option.some.inj ht
          subst e
          have h := h.2.2.2.2.2.2.2.2.2.2.2.2.2.2.2.2.2.2.2.2.2.2.1 hv
          refine xw_L [0, 1, 2, 3, 4] rfl ?_
          refine w_L_law_L1791 (mc := mc) (ms := ms) hf hn hk a0 a1 a2 a3 a4 a5 a6 a7 a8 a9 a10 a11 a12 a13 a14 a15 a16 a17 a18 a19 a20 a21 a22 a23 a24 a25 a26 a27 a28 a29 a30 a31 a32 a33 a34 a35 a36 a37 a38 a39 ab z4 v0 v1 v6 v7 v20 v21 v22 v24 v25 v26 v27 v46 v47 v2 v3 v4 v8 v9 v10 v11 v12 v13 v14 v15 v16 v17 v18 v28 v29 v30 v31 v32 v33 v34 v35 v36 v37 v38 v42 v43 v45 hst hX FU _ _ _ _ _ _ _ h (fun k471 n472 mc473 ms474 hk w464 w465 w466 w467 w468 w469 w470 h => ?_)
          refine xw_iinc hf (pc := 2681) dL_law_2681 (v := z4 + 5) 4 rfl rfl [(4, .int (z4 + 5)), (0, .ref ab), (1, .ref a0), (2, .ref a27), (3, .ref a38)] hn (by decide) rfl ?_
          refine xw_goto hf (pc := 2684) dL_law_2684 (tgt := 23) rfl ?_
          refine xw_L [1, 2, 3, 4, 0] rfl ?_
          exact ih hk _ _ _ _ _ _ _ _ _ _ _ _ _ _ _ _ _ _ _ _ _ _ _ _ _ _ _ _ _ _ _ _ _ _ _ _ _ _ _ _ _ _ _ _ _ _ h
        · have e : (1846 : Nat) = t := Option.some.inj ht
          subst e
          have h := h.2.2.2.2.2.2.2.2.2.2.2.2.2.2.2.2.2.2.2.2.2.2.2.1 hv
          refine xw_L [0, 1, 2, 3, 4] rfl ?_
          refine w_L_law_L1846 (mc := mc) (ms := ms) hf hn hk a0 a1 a2 a3 a4 a5 a6 a7 a8 a9 a10 a11 a12 a13 a14 a15 a16 a17 a18 a19 a20 a21 a22 a23 a24 a25 a26 a27 a28 a29 a30 a31 a32 a33 a34 a35 a36 a37 a38 a39 ab z4 v0 v1 v6 v7 v20 v24 v25 v27 v46 v47 v2 v3 v4 v9 v11 v12 v13 v14 v15 v16 v17 v18 v28 v42 v43 hst hX FU _ _ _ _ _ _ _ _ _ _ _ _ _ _ _ _ _ _ _ _ _ _ _ h (fun k532 n533 mc534 ms535 hk w509 w510 w511 w512 w513 w514 w515 w516 w517 w518 w519 w520 w521 w522 w523 w524 w525 w526 w527 w528 w529 w530 w531 h => ?_)
          refine xw_iinc hf (pc := 2681) dL_law_2681 (v := z4 + 5) 4 rfl rfl [(4, .int (z4 + 5)), (0, .ref ab), (1, .ref a0), (2, .ref a27), (3, .ref a38)] hn (by decide) rfl ?_
          refine xw_goto hf (pc := 2684) dL_law_2684 (tgt := 23) rfl ?_
          refine xw_L [1, 2, 3, 4, 0] rfl ?_
          exact ih hk _ _ _ _ _ _ _ _ _ _ _ _ _ _ _ _ _ _ _ _ _ _ _ _ _ _ _ _ _ _ _ _ _ _ _ _ _ _ _ _ _ _ _ _ _ _ h
        · have e : (1902 : Nat) = t := Option.some.inj ht
          subst e
          have h := h.2.2.2.2.2.2.2.2.2.2.2.2.2.2.2.2.2.2.2.2.2.2.2.2.1 hv
          refine xw_L [0, 1, 2, 3, 4] rfl ?_
          refine w_L_law_L1902 (mc := mc) (ms := ms) hf hn hk a0 a1 a2 a3 a4 a5 a6 a7 a8 a9 a10 a11 a12 a13 a14 a15 a16 a17 a18 a19 a20 a21 a22 a23 a24 a25 a26 a27 a28 a29 a30 a31 a32 a33 a34 a35 a36 a37 a38 a39 ab z4 v0 v1 v20 v21 v22 v25 v46 v47 v5 v6 v7 v8 v9 v10 v18 v26 v27 v28 v29 v30 v31 v32 v33 v34 v35 v36 v37 v38 v45 hst hX FU _ _ _ _ _ _ _ _ _ _ _ _ _ _ _ _ _ _ _ h (fun k579 n580 mc581 ms582 hk w560 w561 w562 w563 w564 w565 w566 w567 w568 w569 w570 w571 w572 w573 w574 w575 w576 w577 w578 h => ?_)
          refine xw_iinc hf (pc := 2681) dL_law_2681 (v := z4 + 5) 4 rfl rfl [(4, .int (z4 + 5)), (0, .ref ab), (1, .ref a0), (2, .ref a27), (3, .ref a38)] hn (by decide) rfl ?_
          refine xw_goto hf (pc := 2684) dL_law_2684 (tgt := 23) rfl ?_
          refine xw_L [1, 2, 3, 4, 0] rfl ?_
          exact ih hk _ _ _ _ _ _ _ _ _ _ _ _ _ _ _ _ _ _ _ _ _ _ _ _ _ _ _ _ _ _ _ _ _ _ _ _ _ _ _ _ _ _ _ _ _ _ h
        · have e : (2002 : Nat) = t := Option.some.inj ht
          subst e
          have h := h.2.2.2.2.2.2.2.2.2.2.2.2.2.2.2.2.2.2.2.2.2.2.2.2.2.1 hv
          refine xw_L [0, 1, 2, 3, 4] rfl ?_
          refine w_L_law_L2002 (mc := mc) (ms := ms) hf hn hk a0 a1 a2 a3 a4 a5 a6 a7 a8 a9 a10 a11 a12 a13 a14 a15 a16 a17 a18 a19 a20 a21 a22 a23 a24 a25 a26 a27 a28 a29 a30 a31 a32 a33 a34 a35 a36 a37 a38 a39 ab z4 v0 v1 v20 v21 v22 v25 v46 v47 v5 v6 v7 v8 v9 v10 v18 v26 v27 v28 v29 v30 v31 v32 v33 v34 v35 v36 v37 v38 v45 hst hX FU _ _ _ _ _ _ _ _ _ _ _ _ _ _ _ _ _ _ _ h (fun k626 n627 mc628 ms629 hk w607 w608 w609 w610 w611 w612 w613 w614 w615 w616 w617 w618 w619 w620 w621 w622 w623 w624 w625 h => ?_)
          refine xw_iinc hf (pc := 2681) dL_law_2681 (v := z4 + 5) 4 rfl rfl [(4, .int (z4 + 5)), (0, .ref ab), (1, .ref a0), (2, .ref a27), (3, .ref a38)] hn (by decide) rfl ?_
          refine xw_goto hf (pc := 2684) dL_law_2684 (tgt := 23) rfl ?_
          refine xw_L [1, 2, 3, 4, 0] rfl ?_
          exact ih hk _ _ _ _ _ _ _ _ _ _ _ _ _ _ _ _ _ _ _ _ _ _ _ _ _ _ _ _ _ _ _ _ _ _ _ _ _ _ _ _ _ _ _ _ _ _ h
        · have e : (2113 : Nat) = t := Option.some.inj ht
          subst e
          have h := h.2.2.2.2.2.2.2.2.2.2.2.2.2.2.2.2.2.2.2.2.2.2.2.2.2.2.1 hv
          refine xw_L [0, 1, 2, 3, 4] rfl ?_
          refine w_L_law_L2113 (mc := mc) (ms := ms) hf hn hk a0 a1 a2 a3 a4 a5 a6 a7 a8 a9 a10 a11 a12 a13 a14 a15 a16 a17 a18 a19 a20 a21 a22 a23 a24 a25 a26 a27 a28 a29 a30 a31 a32 a33 a34 a35 a36 a37 a38 a39 ab z4 v0 v1 v20 v21 v22 v25 v46 v47 v5 v6 v7 v8 v9 v10 v18 v26 v27 v28 v29 v30 v31 v32 v33 v34 v35 v36 v37 v38 v45 hst hX FU _ _ _ _ _ _ _ _ _ _ _ _ _ _ _ _ _ _ _ h (fun k673 n674 mc675 ms676 hk w654 w655 w656 w657 w658 w659 w660 w661 w662 w663 w664 w665 w666 w667 w668 w669 w670 w671 w672 h => ?_)
          refine xw_iinc hf (pc := 2681) dL_law_2681 (v := z4 + 5) 4 rfl rfl [(4, .int (z4 + 5)), (0, .ref ab), (1, .ref a0), (2, .ref a27), (3, .ref a38)] hn (by decide) rfl ?_
          refine xw_goto hf (pc := 2684) dL_law_2684 (tgt := 23) rfl ?_
          refine xw_L [1, 2, 3, 4, 0] rfl ?_
          exact ih hk _ _ _ _ _ _ _ _ _ _ _ _ _ _ _ _ _ _ _ _ _ _ _ _ _ _ _ _ _ _ _ _ _ _ _ _ _ _ _ _ _ _ _ _ _ _ h
        · have e : (2213 : Nat) = t := Option.some.inj ht
          subst e
          have h := h.2.2.2.2.2.2.2.2.2.2.2.2.2.2.2.2.2.2.2.2.2.2.2.2.2.2.2.1 hv
          refine xw_L [0, 1, 2, 3, 4] rfl ?_
          refine w_L_law_L2213 (mc := mc) (ms := ms) hf hn hk a0 a1 a2 a3 a4 a5 a6 a7 a8 a9 a10 a11 a12 a13 a14 a15 a16 a17 a18 a19 a20 a21 a22 a23 a24 a25 a26 a27 a28 a29 a30 a31 a32 a33 a34 a35 a36 a37 a38 a39 ab z4 v0 v1 v20 v25 v46 v47 v6 v7 v18 v27 hst hX FU _ _ _ _ _ _ _ _ _ _ _ _ _ _ _ _ _ _ _ _ _ _ _ _ _ _ _ _ _ _ _ _ _ _ _ _ _ _ h (fun k764 n765 mc766 ms767 hk w726 w727 w728 w729 w730 w731 w732 w733 w734 w735 w736 w737 w738 w739 w740 w741 w742 w743 w744 w745 w746 w747 w748 w749 w750 w751 w752 w753 w754 w755 w756 w757 w758 w759 w760 w761 w762 w763 h => ?_)
          refine xw_iinc hf (pc := 2681) dL_law_2681 (v := z4 + 5) 4 rfl rfl [(4, .int (z4 + 5)), (0, .ref ab), (1, .ref a0), (2, .ref a27), (3, .ref a38)] hn (by decide) rfl ?_
          refine xw_goto hf (pc := 2684) dL_law_2684 (tgt := 23) rfl ?_
          refine xw_L [1, 2, 3, 4, 0] rfl ?_
          exact ih hk _ _ _ _ _ _ _ _ _ _ _ _ _ _ _ _ _ _ _ _ _ _ _ _ _ _ _ _ _ _ _ _ _ _ _ _ _ _ _ _ _ _ _ _ _ _ h
        · have e : (2313 : Nat) = t := Option.some.inj ht
          subst e
          have h := h.2.2.2.2.2.2.2.2.2.2.2.2.2.2.2.2.2.2.2.2.2.2.2.2.2.2.2.2.1 hv
          refine xw_L [0, 1, 2, 3, 4] rfl ?_
          refine w_L_law_L2313 (mc := mc) (ms := ms) hf hn hk a0 a1 a2 a3 a4 a5 a6 a7 a8 a9 a10 a11 a12 a13 a14 a15 a16 a17 a18 a19 a20 a21 a22 a23 a24 a25 a26 a27 a28 a29 a30 a31 a32 a33 a34 a35 a36 a37 a38 a39 ab z4 v8 v20 v21 v22 v23 v24 v45 v0 v1 v2 v3 v4 v5 v6 v7 v9 v10 v11 v12 v13 v14 v15 v16 v17 v18 v25 v26 v27 v28 v29 v30 v31 v32 v33 v34 v35 v36 v37 v38 v39 v40 v41 v42 v43 v44 v46 v47 hst hX FU _ h (fun k772 n773 mc774 ms775 hk w771 h => ?_)
          refine xw_iinc hf (pc := 2681) dL_law_2681 (v := z4 + 5) 4 rfl rfl [(4, .int (z4 + 5)), (0, .ref ab), (1, .ref a0), (2, .ref a27), (3, .ref a38)] hn (by decide) rfl ?_
          refine xw_goto hf (pc := 2684) dL_law_2684 (tgt := 23) rfl ?_
          refine xw_L [1, 2, 3, 4, 0] rfl ?_
          exact ih hk _ _ _ _ _ _ _ _ _ _ _ _ _ _ _ _ _ _ _ _ _ _ _ _ _ _ _ _ _ _ _ _ _ _ _ _ _ _ _ _ _ _ _ _ _ _ h
        · have e : (2326 : Nat) = t := Option.some.inj ht
          subst e
          have h := h.2.2.2.2.2.2.2.2.2.2.2.2.2.2.2.2.2.2.2.2.2.2.2.2.2.2.2.2.2.1 hv
          refine xw_L [0, 1, 2, 3, 4] rfl ?_
          refine w_L_law_L2326 (mc := mc) (ms := ms) hf hn hk a0 a1 a2 a3 a4 a5 a6 a7 a8 a9 a10 a11 a12 a13 a14 a15 a16 a17 a18 a19 a20 a21 a22 a23 a24 a25 a26 a27 a28 a29 a30 a31 a32 a33 a34 a35 a36 a37 a38 a39 ab z4 v8 v20 v21 v22 v23 v24 v30 v31 v32 v45 v46 v47 v0 v1 v2 v3 v4 v5 v6 v7 v9 v10 v11 v12 v13 v14 v15 v16 v17 v18 v25 v26 v27 v28 v29 v33 v34 v35 v36 v37 v38 v39 v40 v41 v42 v43 hst hX FU _ _ h (fun k785 n786 mc787 ms788 hk w783 w784 h => ?_)
          refine xw_iinc hf (pc := 2681) dL_law_2681 (v := z4 + 5) 4 rfl rfl [(4, .int (z4 + 5)), (0, .ref ab), (1, .ref a0), (2, .ref a27), (3, .ref a38)] hn (by decide) rfl ?_
          refine xw_goto hf (pc := 2684) dL_law_2684 (tgt := 23) rfl ?_
          refine xw_L [1, 2, 3, 4, 0] rfl ?_
          exact ih hk _ _ _ _ _ _ _ _ _ _ _ _ _ _ _ _ _ _ _ _ _ _ _ _ _ _ _ _ _ _ _ _ _ _ _ _ _ _ _ _ _ _ _ _ _ _ h
        · have e : (2381 : Nat) = t := Option.some.inj ht
          subst e
          have h := h.2.2.2.2.2.2.2.2.2.2.2.2.2.2.2.2.2.2.2.2.2.2.2.2.2.2.2.2.2.2.1 hv
          refine xw_L [0, 1, 2, 3, 4] rfl ?_
          refine w_L_law_L2381 (mc := mc) (ms := ms) hf hn hk a0 a1 a2 a3 a4 a5 a6 a7 a8 a9 a10 a11 a12 a13 a14 a15 a16 a17 a18 a19 a20 a21 a22 a23 a24 a25 a26 a27 a28 a29 a30 a31 a32 a33 a34 a35 a36 a37 a38 a39 ab z4 v8 v20 v21 v22 v23 v24 v33 v34 v35 v45 v46 v47 v0 v1 v2 v3 v4 v5 v6 v7 v9 v10 v11 v12 v13 v14 v15 v16 v17 v18 v25 v26 v27 v28 v29 v30 v31 v32 v36 v37 v38 v39 v40 v41 v42 v43 hst hX FU _ _ h (fun k798 n799 mc800 ms801 hk w796 w797 h => ?_)
          refine xw_iinc hf (pc := 2681) dL_law_2681 (v := z4 + 5) 4 rfl rfl [(4, .int (z4 + 5)), (0, .ref ab), (1, .ref a0), (2, .ref a27), (3, .ref a38)] hn (by decide) rfl ?_
          refine xw_goto hf (pc := 2684) dL_law_2684 (tgt := 23) rfl ?_
          refine xw_L [1, 2, 3, 4, 0] rfl ?_
          exact ih hk _ _ _ _ _ _ _ _ _ _ _ _ _ _ _ _ _ _ _ _ _ _ _ _ _ _ _ _ _ _ _ _ _ _ _ _ _ _ _ _ _ _ _ _ _ _ h
        · have e : (2437 : Nat) = t := Option.some.inj ht
          subst e
          have h := h.2.2.2.2.2.2.2.2.2.2.2.2.2.2.2.2.2.2.2.2.2.2.2.2.2.2.2.2.2.2.2.1 hv
          refine xw_L [0, 1, 2, 3, 4] rfl ?_
          refine w_L_law_L2437 (mc := mc) (ms := ms) hf hn hk a0 a1 a2 a3 a4 a5 a6 a7 a8 a9 a10 a11 a12 a13 a14 a15 a16 a17 a18 a19 a20 a21 a22 a23 a24 a25 a26 a27 a28 a29 a30 a31 a32 a33 a34 a35 a36 a37 a38 a39 ab z4 v8 v20 v21 v22 v23 v24 v36 v37 v38 v45 v46 v47 v0 v1 v2 v3 v4 v5 v6 v7 v9 v10 v11 v12 v13 v14 v15 v16 v17 v18 v25 v26 v27 v28 v29 v30 v31 v32 v33 v34 v35 v39 v40 v41 v42 v43 hst hX FU _ _ h (fun k811 n812 mc813 ms814 hk w809 w810 h => ?_)
          refine xw_iinc hf (pc := 2681) dL_law_2681 (v := z4 + 5) 4 rfl rfl [(4, .int (z4 + 5)), (0, .ref ab), (1, .ref a0), (2, .ref a27), (3, .ref a38)] hn (by decide) rfl ?_
          refine xw_goto hf (pc := 2684) dL_law_2684 (tgt := 23) rfl ?_
          refine xw_L [1, 2, 3, 4, 0] rfl ?_
          exact ih hk _ _ _ _ _ _ _ _ _ _ _ _ _ _ _ _ _ _ _ _ _ _ _ _ _ _ _ _ _ _ _ _ _ _ _ _ _ _ _ _ _ _ _ _ _ _ h
        · have e : (2500 : Nat) = t := Option.some.inj ht
          subst e
          have h := h.2.2.2.2.2.2.2.2.2.2.2.2.2.2.2.2.2.2.2.2.2.2.2.2.2.2.2.2.2.2.2.2.1 hv
          refine xw_L [0, 1, 2, 3, 4] rfl ?_
          refine w_L_law_L2500 (mc := mc) (ms := ms) hf hn hk a0 a1 a2 a3 a4 a5 a6 a7 a8 a9 a10 a11 a12 a13 a14 a15 a16 a17 a18 a19 a20 a21 a22 a23 a24 a25 a26 a27 a28 a29 a30 a31 a32 a33 a34 a35 a36 a37 a38 a39 ab z4 v20 v21 v24 v30 v31 v32 v33 v34 v35 v36 v37 v46 v47 v0 v1 v2 v3 v4 v6 v7 v9 v11 v12 v13 v14 v15 v16 v17 v25 v27 v28 v41 v42 v43 hst hX FU _ _ _ _ _ _ _ _ _ _ _ _ _ _ h (fun k848 n849 mc850 ms851 hk w834 w835 w836 w837 w838 w839 w840 w841 w842 w843 w844 w845 w846 w847 h => ?_)
          refine xw_iinc hf (pc := 2681) dL_law_2681 (v := z4 + 5) 4 rfl rfl [(4, .int (z4 + 5)), (0, .ref ab), (1, .ref a0), (2, .ref a27), (3, .ref a38)] hn (by decide) rfl ?_
          refine xw_goto hf (pc := 2684) dL_law_2684 (tgt := 23) rfl ?_
          refine xw_L [1, 2, 3, 4, 0] rfl ?_
          exact ih hk _ _ _ _ _ _ _ _ _ _ _ _ _ _ _ _ _ _ _ _ _ _ _ _ _ _ _ _ _ _ _ _ _ _ _ _ _ _ _ _ _ _ _ _ _ _ h
        · have e : (2556 : Nat) = t := Option.some.inj ht
          subst e
          have h := h.2.2.2.2.2.2.2.2.2.2.2.2.2.2.2.2.2.2.2.2.2.2.2.2.2.2.2.2.2.2.2.2.2.1 hv
          refine xw_L [0, 1, 2, 3, 4] rfl ?_
          refine w_L_law_L2556 (mc := mc) (ms := ms) hf hn hk a0 a1 a2 a3 a4 a5 a6 a7 a8 a9 a10 a11 a12 a13 a14 a15 a16 a17 a18 a19 a20 a21 a22 a23 a24 a25 a26 a27 a28 a29 a30 a31 a32 a33 a34 a35 a36 a37 a38 a39 ab z4 v8 v20 v21 v22 v23 v24 v0 v1 v2 v3 v4 v5 v6 v7 v9 v10 v11 v12 v13 v14 v15 v16 v17 v18 v25 v26 v27 v28 v29 v30 v31 v32 v33 v34 v35 v36 v37 v38 v39 v40 v41 v42 v43 v44 v45 v46 v47 hst hX FU _ h (fun k856 n857 mc858 ms859 hk w855 h => ?_)
          refine xw_iinc hf (pc := 2681) dL_law_2681 (v := z4 + 5) 4 rfl rfl [(4, .int (z4 + 5)), (0, .ref ab), (1, .ref a0), (2, .ref a27), (3, .ref a38)] hn (by decide) rfl ?_
          refine xw_goto hf (pc := 2684) dL_law_2684 (tgt := 23) rfl ?_
          refine xw_L [1, 2, 3, 4, 0] rfl ?_
          exact ih hk _ _ _ _ _ _ _ _ _ _ _ _ _ _ _ _ _ _ _ _ _ _ _ _ _ _ _ _ _ _ _ _ _ _ _ _ _ _ _ _ _ _ _ _ _ _ h
        · have e : (2569 : Nat) = t := Option.some.inj ht
          subst e
          have h := h.2.2.2.2.2.2.2.2.2.2.2.2.2.2.2.2.2.2.2.2.2.2.2.2.2.2.2.2.2.2.2.2.2.2.1 hv
          refine xw_L [0, 1, 2, 3, 4] rfl ?_
          refine w_L_law_L2569 (mc := mc) (ms := ms) hf hn hk a0 a1 a2 a3 a4 a5 a6 a7 a8 a9 a10 a11 a12 a13 a14 a15 a16 a17 a18 a19 a20 a21 a22 a23 a24 a25 a26 a27 a28 a29 a30 a31 a32 a33 a34 a35 a36 a37 a38 a39 ab z4 v8 v9 v20 v21 v22 v23 v24 v28 v46 v47 v0 v1 v2 v3 v4 v5 v6 v7 v10 v11 v12 v13 v14 v15 v16 v17 v18 v25 v26 v27 v29 v30 v31 v32 v33 v34 v35 v36 v37 v38 v39 v40 v41 v42 v43 v45 hst hX FU _ _ h (fun k869 n870 mc871 ms872 hk w867 w868 h => ?_)
          refine xw_iinc hf (pc := 2681) dL_law_2681 (v := z4 + 5) 4 rfl rfl [(4, .int (z4 + 5)), (0, .ref ab), (1, .ref a0), (2, .ref a27), (3, .ref a38)] hn (by decide) rfl ?_
          refine xw_goto hf (pc := 2684) dL_law_2684 (tgt := 23) rfl ?_
          refine xw_L [1, 2, 3, 4, 0] rfl ?_
          exact ih hk _ _ _ _ _ _ _ _ _ _ _ _ _ _ _ _ _ _ _ _ _ _ _ _ _ _ _ _ _ _ _ _ _ _ _ _ _ _ _ _ _ _ _ _ _ _ h
        · have e : (2625 : Nat) = t := Option.some.inj ht
          subst e
          have h := h.2.2.2.2.2.2.2.2.2.2.2.2.2.2.2.2.2.2.2.2.2.2.2.2.2.2.2.2.2.2.2.2.2.2.2.1 hv
          refine xw_L [0, 1, 2, 3, 4] rfl ?_
          refine w_L_law_L2625 (mc := mc) (ms := ms) hf hn hk a0 a1 a2 a3 a4 a5 a6 a7 a8 a9 a10 a11 a12 a13 a14 a15 a16 a17 a18 a19 a20 a21 a22 a23 a24 a25 a26 a27 a28 a29 a30 a31 a32 a33 a34 a35 a36 a37 a38 a39 ab z4 v8 v10 v20 v21 v22 v23 v24 v29 v46 v47 v0 v1 v2 v3 v4 v5 v6 v7 v9 v11 v12 v13 v14 v15 v16 v17 v18 v25 v26 v27 v28 v30 v31 v32 v33 v34 v35 v36 v37 v38 v39 v40 v41 v42 v43 v45 hst hX FU _ _ h (fun k882 n883 mc884 ms885 hk w880 w881 h => ?_)
          refine xw_iinc hf (pc := 2681) dL_law_2681 (v := z4 + 5) 4 rfl rfl [(4, .int (z4 + 5)), (0, .ref ab), (1, .ref a0), (2, .ref a27), (3, .ref a38)] hn (by decide) rfl ?_
          refine xw_goto hf (pc := 2684) dL_law_2684 (tgt := 23) rfl ?_
          refine xw_L [1, 2, 3, 4, 0] rfl ?_
          exact ih hk _ _ _ _ _ _ _ _ _ _ _ _ _ _ _ _ _ _ _ _ _ _ _ _ _ _ _ _ _ _ _ _ _ _ _ _ _ _ _ _ _ _ _ _ _ _ h
      · have h := h.2.2.2.2.2.2.2.2.2.2.2.2.2.2.2.2.2.2.2.2.2.2.2.2.2.2.2.2.2.2.2.2.2.2.2.2 hv
        refine xw_iinc hf (pc := 2681) dL_law_2681 (v := z4 + 5) 4 rfl rfl [(4, .int (z4 + 5)), (0, .ref ab), (1, .ref a0), (2, .ref a27), (3, .ref a38)] hn (by decide) rfl ?_
        refine xw_goto hf (pc := 2684) dL_law_2684 (tgt := 23) rfl ?_
        refine xw_L [1, 2, 3, 4, 0] rfl ?_
        exact ih hk _ _ _ _ _ _ _ _ _ _ _ _ _ _ _ _ _ _ _ _ _ _ _ _ _ _ _ _ _ _ _ _ _ _ _ _ _ _ _ _ _ _ _ _ _ _ h
