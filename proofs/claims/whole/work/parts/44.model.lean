abbrev W_X9_write (g : Gx) (a0 a1 a2 a3 a4 a5 a6 a7 a8 a9 a10 : Nat) (v0 : Int32) (v1 : Int32) (v2 : Int32) (v3 : Int32) (v4 : Int32) (v5 : Int32) (v6 : Nat) (v7 : Nat) (v8 : Nat → Int64) (v9 : Nat) (v10 : Nat) (v11 : Nat → Int32) (v12 : Nat) (v13 : Nat) (v14 : Nat → Int32) : va_W := [(a0, .inr (9, [.int v0, .ref a1, .int v1, .ref a2, .ref a3, .ref a4, .ref a5, .ref v6, .ref v9, .ref v12, .int v2, .int v3, .ref a6, .int v4, .ref a7, .ref a8, .ref a9, .ref a10, .int v5])), (v6, .inl (gJ g, v7, .inr (.inl v8))), (v9, .inl (gI g, v10, .inl v11)), (v12, .inl (gZ g, v13, .inl v14))]
abbrev rm_X9_write (mc ms : Nat) : Room := { frames := 0, cells := mc, slots := ms, locals := 0 }
theorem mw_X9_write_0 : (Cond.fieldLink RX9 156 "AnagramButcherModel" "receipts" "I" : Cond) ∈ wsX9_write := (List.mem_cons_of_mem _ (List.mem_append_left _ (List.mem_of_getElem? (i := 0) rfl)))
theorem mw_X9_write_1 : (Cond.fieldLink RX9 26 "AnagramButcherModel" "receiptWords" "[J" : Cond) ∈ wsX9_write := (List.mem_cons_of_mem _ (List.mem_append_left _ (List.mem_of_getElem? (i := 1) rfl)))
theorem mw_X9_write_2 : (Cond.arrayClass .long : Cond) ∈ wsX9_write := (List.mem_cons_of_mem _ (List.mem_append_left _ (List.mem_of_getElem? (i := 2) rfl)))
theorem mw_X9_write_3 : (Cond.arrayClass .int : Cond) ∈ wsX9_write := (List.mem_cons_of_mem _ (List.mem_append_left _ (List.mem_of_getElem? (i := 3) rfl)))
theorem mw_X9_write_4 : (Cond.arrayClass .boolean : Cond) ∈ wsX9_write := (List.mem_cons_of_mem _ (List.mem_append_left _ (List.mem_of_getElem? (i := 4) rfl)))
theorem mw_X9_write_5 : (Cond.fieldLink RX9 29 "AnagramButcherModel" "receiptPrices" "[I" : Cond) ∈ wsX9_write := (List.mem_cons_of_mem _ (List.mem_append_left _ (List.mem_of_getElem? (i := 5) rfl)))
theorem mw_X9_write_6 : (Cond.fieldLink RX9 32 "AnagramButcherModel" "returned" "[Z" : Cond) ∈ wsX9_write := (List.mem_cons_of_mem _ (List.mem_append_left _ (List.mem_of_getElem? (i := 6) rfl)))
theorem mw_X9_write_7 : (Cond.fieldLink RX9 159 "AnagramButcherModel" "takings" "I" : Cond) ∈ wsX9_write := (List.mem_cons_of_mem _ (List.mem_append_left _ (List.mem_of_getElem? (i := 7) rfl)))
theorem mi_X9_write_X9 : ∀ w ∈ wsX90, w ∈ wsX9_write := fun _ h => (List.mem_cons_of_mem _ (List.mem_append_right _ h))
set_option maxHeartbeats 4000000 in
set_option maxRecDepth 100000 in
theorem w_X9_write_L45 {x : Cx} {mc ms : Nat} (hf : fx x (rm_X9_write mc ms) RX9 cX9_write wsX9_write) (hn : xn x = 8) {k0 n0 : Nat} (hk : k0 ≤ (rm_X9_write mc ms).cells ∧ n0 ≤ (rm_X9_write mc ms).slots) (a0 a1 a2 a3 a4 a5 a6 a7 a8 a9 a10 xq18 xq28 xq38 : Nat) (z1 : Int64) (z3 : Int32) (v2 : Int32) (v7 : Nat) (v8 : Nat → Int64) (v10 : Nat) (v11 : Nat → Int32) (v13 : Nat) (v14 : Nat → Int32) (xl18 : Nat) (xl28 : Nat) (xl38 : Nat) (v0 : Int32) (v1 : Int32) (v3 : Int32) (v4 : Int32) (v5 : Int32) (v6 : Nat) (v9 : Nat) (v12 : Nat) {K96 : (Nat → Int64) → (Nat → Int32) → (Nat → Int32) → Prop}
    (n : Nat) (z7 : Int32) (xv18 : Nat → Int64) (xv28 : Nat → Int32) (xv38 : Nat → Int32) (h : P_X9_write_L45 z1 z3 v2 v7 v8 v10 v11 v13 v14 xl18 xl28 xl38 K96 n z7 xv18 xv28 xv38)
    (hK96 : ∀ (uxv18 : Nat → Int64), ∀ (uxv28 : Nat → Int32), ∀ (uxv38 : Nat → Int32), K96 uxv18 uxv28 uxv38 → ww x (W_X9_write (xg x) a0 a1 a2 a3 a4 a5 a6 a7 a8 a9 a10 v0 v1 v2 v3 v4 v5 v6 v7 v8 v9 v10 v11 v12 v13 v14 ++ [(xq18, .inl (gJ (xg x), xl18, .inr (.inl uxv18)))] ++ [(xq28, .inl (gI (xg x), xl28, .inl uxv28))] ++ [(xq38, .inl (gZ (xg x), xl38, .inl uxv38))]) [(0, .ref a0), (1, .long z1), (3, .int z3), (4, .ref xq18), (5, .ref xq28), (6, .ref xq38)] k0 n0 96 []) :
    ww x (W_X9_write (xg x) a0 a1 a2 a3 a4 a5 a6 a7 a8 a9 a10 v0 v1 v2 v3 v4 v5 v6 v7 v8 v9 v10 v11 v12 v13 v14 ++ [(xq18, .inl (gJ (xg x), xl18, .inr (.inl xv18)))] ++ [(xq28, .inl (gI (xg x), xl28, .inl xv28))] ++ [(xq38, .inl (gZ (xg x), xl38, .inl xv38))]) [(0, .ref a0), (1, .long z1), (3, .int z3), (4, .ref xq18), (5, .ref xq28), (6, .ref xq38), (7, .int z7)] k0 n0 45 [] := by
  induction n generalizing z7 xv18 xv28 xv38 with
  | zero => exact h.elim
  | succ n ih =>
    unfold P_X9_write_L45 at h
    refine xw_iload hf (pc := 45) dX9_write_45 6 rfl ?_
    refine xw_aload_n hf (pc := 47) dX9_write_47 rfl 0 rfl ?_
    refine xw_get hf (pc := 48) dX9_write_48 (T := TX9) mi_X9_write_X9 rfl 0 rfl 10 (by decide) rfl mw_X9_write_0 rfl ?_
    refine xw_icmp_ge hf (pc := 51) dX9_write_51 (tgt := 96) rfl ⟨fun c => ?_, fun c => ?_⟩
    · have h := h.1 c
      refine xw_L [0, 1, 2, 3, 4, 5] rfl ?_
      exact hK96 _ _ _ h
    · have h := h.2 c
      refine xw_aload hf (pc := 54) dX9_write_54 3 rfl ?_
      refine xw_iload hf (pc := 56) dX9_write_56 6 rfl ?_
      refine xw_aload_n hf (pc := 58) dX9_write_58 rfl 0 rfl ?_
      refine xw_get hf (pc := 59) dX9_write_59 (T := TX9) mi_X9_write_X9 rfl 0 rfl 7 (by decide) rfl mw_X9_write_1 rfl ?_
      refine xw_iload hf (pc := 62) dX9_write_62 6 rfl ?_
      refine xw_lald hf (pc := 64) dX9_write_64 1 rfl h.1 ?_
      have h := h.2
      refine xw_last hf (pc := 65) dX9_write_65 4 rfl h.1 (W_X9_write (xg x) a0 a1 a2 a3 a4 a5 a6 a7 a8 a9 a10 v0 v1 v2 v3 v4 v5 v6 v7 v8 v9 v10 v11 v12 v13 v14 ++ [(xq18, .inl (gJ (xg x), xl18, .inr (.inl (vp_updL xv18 z7.toNatClampNeg (v8 z7.toNatClampNeg)))))] ++ [(xq28, .inl (gI (xg x), xl28, .inl xv28))] ++ [(xq38, .inl (gZ (xg x), xl38, .inl xv38))]) rfl ?_
      have h := h.2
      refine xw_aload hf (pc := 66) dX9_write_66 4 rfl ?_
      refine xw_iload hf (pc := 68) dX9_write_68 6 rfl ?_
      refine xw_aload_n hf (pc := 70) dX9_write_70 rfl 0 rfl ?_
      refine xw_get hf (pc := 71) dX9_write_71 (T := TX9) mi_X9_write_X9 rfl 0 rfl 8 (by decide) rfl mw_X9_write_5 rfl ?_
      refine xw_iload hf (pc := 74) dX9_write_74 6 rfl ?_
      refine xw_iald hf (pc := 76) dX9_write_76 2 rfl h.1 ?_
      have h := h.2
      refine xw_iast hf (pc := 77) dX9_write_77 5 rfl h.1 (W_X9_write (xg x) a0 a1 a2 a3 a4 a5 a6 a7 a8 a9 a10 v0 v1 v2 v3 v4 v5 v6 v7 v8 v9 v10 v11 v12 v13 v14 ++ [(xq18, .inl (gJ (xg x), xl18, .inr (.inl (vp_updL xv18 z7.toNatClampNeg (v8 z7.toNatClampNeg)))))] ++ [(xq28, .inl (gI (xg x), xl28, .inl (upd xv28 z7.toNatClampNeg (v11 z7.toNatClampNeg))))] ++ [(xq38, .inl (gZ (xg x), xl38, .inl xv38))]) rfl ?_
      have h := h.2
      refine xw_aload hf (pc := 78) dX9_write_78 5 rfl ?_
      refine xw_iload hf (pc := 80) dX9_write_80 6 rfl ?_
      refine xw_aload_n hf (pc := 82) dX9_write_82 rfl 0 rfl ?_
      refine xw_get hf (pc := 83) dX9_write_83 (T := TX9) mi_X9_write_X9 rfl 0 rfl 9 (by decide) rfl mw_X9_write_6 rfl ?_
      refine xw_iload hf (pc := 86) dX9_write_86 6 rfl ?_
      refine xw_zald hf (pc := 88) dX9_write_88 3 rfl h.1 ?_
      have h := h.2
      refine xw_zast hf (pc := 89) dX9_write_89 6 rfl h.1 (W_X9_write (xg x) a0 a1 a2 a3 a4 a5 a6 a7 a8 a9 a10 v0 v1 v2 v3 v4 v5 v6 v7 v8 v9 v10 v11 v12 v13 v14 ++ [(xq18, .inl (gJ (xg x), xl18, .inr (.inl (vp_updL xv18 z7.toNatClampNeg (v8 z7.toNatClampNeg)))))] ++ [(xq28, .inl (gI (xg x), xl28, .inl (upd xv28 z7.toNatClampNeg (v11 z7.toNatClampNeg))))] ++ [(xq38, .inl (gZ (xg x), xl38, .inl (upd xv38 z7.toNatClampNeg (vp_nar .boolean (v14 z7.toNatClampNeg)))))]) rfl ?_
      have h := h.2
      refine xw_iinc hf (pc := 90) dX9_write_90 (v := z7 + 1) 6 rfl rfl [(7, .int (z7 + 1)), (0, .ref a0), (1, .long z1), (3, .int z3), (4, .ref xq18), (5, .ref xq28), (6, .ref xq38)] hn (by decide) rfl ?_
      refine xw_goto hf (pc := 93) dX9_write_93 (tgt := 45) rfl ?_
      refine xw_L [1, 2, 3, 4, 5, 6, 0] rfl ?_
      exact ih _ _ _ _ h
set_option maxHeartbeats 4000000 in
set_option maxRecDepth 100000 in
theorem c_X9_write (l : Launch) (g : Gx) (a0 a1 a2 a3 a4 a5 a6 a7 a8 a9 a10 : Nat) (v0 : Int32) (v1 : Int32) (v2 : Int32) (v3 : Int32) (v4 : Int32) (v5 : Int32) (v6 : Nat) (v7 : Nat) (v8 : Nat → Int64) (v9 : Nat) (v10 : Nat) (v11 : Nat → Int32) (v12 : Nat) (v13 : Nat) (v14 : Nat → Int32) (p1 : Int64) (p3 : Int32) {post : Int32 → Int32 → Nat → Nat → (Nat → Int64) → Nat → Nat → (Nat → Int32) → Nat → Nat → (Nat → Int32) → Prop} {mc ms : Nat} (h : P_X9_write post mc ms p1 p3 v0 v1 v2 v3 v4 v5 v6 v7 v8 v9 v10 v11 v12 v13 v14) : cm l g yX9_write wsX9_write (rm_X9_write mc ms) [.ref a0, .long p1, .int p3] (W_X9_write g a0 a1 a2 a3 a4 a5 a6 a7 a8 a9 a10 v0 v1 v2 v3 v4 v5 v6 v7 v8 v9 v10 v11 v12 v13 v14) (fun v X1 => ∃ (uv2 : Int32) (uv3 : Int32) (uv6 : Nat) (uv7 : Nat) (uv8 : Nat → Int64) (uv9 : Nat) (uv10 : Nat) (uv11 : Nat → Int32) (uv12 : Nat) (uv13 : Nat) (uv14 : Nat → Int32), v = none ∧ X1 = W_X9_write g a0 a1 a2 a3 a4 a5 a6 a7 a8 a9 a10 v0 v1 uv2 uv3 v4 v5 uv6 uv7 uv8 uv9 uv10 uv11 uv12 uv13 uv14 ∧ post uv2 uv3 uv6 uv7 uv8 uv9 uv10 uv11 uv12 uv13 uv14) := by
  refine cm_of (cc := cX9_write) (nL := 8) (ret := none) (by decide +kernel) rfl (Nat.le_of_ble_eq_true rfl) ?_
  intro x hf hl hg hn hi hr
  subst hl
  subst hg
  show ww x (W_X9_write (xg x) a0 a1 a2 a3 a4 a5 a6 a7 a8 a9 a10 v0 v1 v2 v3 v4 v5 v6 v7 v8 v9 v10 v11 v12 v13 v14) [(0, .ref a0), (1, .long p1), (3, .int p3)] 0 0 0 []
  unfold P_X9_write at h
  have hk : 0 + mc ≤ (rm_X9_write mc ms).cells ∧ 0 + ms ≤ (rm_X9_write mc ms).slots := ⟨Nat.le_of_eq (Nat.zero_add mc), Nat.le_of_eq (Nat.zero_add ms)⟩
  refine xw_aload_n hf (pc := 0) dX9_write_0 rfl 0 rfl ?_
  refine xw_get hf (pc := 1) dX9_write_1 (T := TX9) mi_X9_write_X9 rfl 0 rfl 10 (by decide) rfl mw_X9_write_0 rfl ?_
  refine xw_aload_n hf (pc := 4) dX9_write_4 rfl 0 rfl ?_
  refine xw_get hf (pc := 5) dX9_write_5 (T := TX9) mi_X9_write_X9 rfl 0 rfl 7 (by decide) rfl mw_X9_write_1 rfl ?_
  refine xw_alen hf (pc := 8) dX9_write_8 1 1 rfl rfl rfl ?_
  refine xw_icmp_ne hf (pc := 9) dX9_write_9 (tgt := 114) rfl ⟨fun c => ?_, fun c => ?_⟩
  · have h := h.1 c
    refine xw_iconst hf (pc := 12) dX9_write_12 (v := 2) (by decide) ?_
    refine xw_aload_n hf (pc := 13) dX9_write_13 rfl 0 rfl ?_
    refine xw_get hf (pc := 14) dX9_write_14 (T := TX9) mi_X9_write_X9 rfl 0 rfl 10 (by decide) rfl mw_X9_write_0 rfl ?_
    refine xw_imul hf (pc := 17) dX9_write_17 ?_
    obtain ⟨N1, eN1⟩ : ∃ z : Nat, z = (2 * v2).toNatClampNeg := ⟨_, rfl⟩
    have h := h N1 eN1
    obtain ⟨h9, h8, h⟩ := h
    obtain ⟨mc3, ms4, ⟨hb1, hb2⟩, h⟩ := h
    refine xw_newa hf (pc := 18) dX9_write_18 (N := N1) (a0 := (N1, .inr (.inl (fun _ => 0)))) mw_X9_write_2 rfl 1 rfl (fun _ => rfl) h9 eN1.symm h8 (Nat.le_trans (show 0 + 1 ≤ 0 + mc by omega) hk.1) (Nat.le_trans (show 0 + N1 ≤ 0 + ms by omega) hk.2) (fun q2 => ?_)
    have hk : 0 + 1 + mc3 ≤ (rm_X9_write mc ms).cells ∧ 0 + N1 + ms4 ≤ (rm_X9_write mc ms).slots := ⟨Nat.le_trans (show 0 + 1 + mc3 ≤ 0 + mc by omega) hk.1, Nat.le_trans (show 0 + N1 + ms4 ≤ 0 + ms by omega) hk.2⟩
    have h := h q2
    show ww x (W_X9_write (xg x) a0 a1 a2 a3 a4 a5 a6 a7 a8 a9 a10 v0 v1 v2 v3 v4 v5 v6 v7 v8 v9 v10 v11 v12 v13 v14 ++ [(q2, .inl (gJ (xg x), N1, .inr (.inl (fun _ => 0))))]) [(0, .ref a0), (1, .long p1), (3, .int p3)] (0 + 1) (0 + N1) 20 [.ref q2]
    refine xw_astore hf (pc := 20) dX9_write_20 [(4, .ref q2), (0, .ref a0), (1, .long p1), (3, .int p3)] hn (by decide) rfl ?_
    refine xw_iconst hf (pc := 22) dX9_write_22 (v := 2) (by decide) ?_
    refine xw_aload_n hf (pc := 23) dX9_write_23 rfl 1 rfl ?_
    refine xw_get hf (pc := 24) dX9_write_24 (T := TX9) mi_X9_write_X9 rfl 0 rfl 10 (by decide) rfl mw_X9_write_0 rfl ?_
    refine xw_imul hf (pc := 27) dX9_write_27 ?_
    obtain ⟨N5, eN5⟩ : ∃ z : Nat, z = (2 * v2).toNatClampNeg := ⟨_, rfl⟩
    have h := h N5 eN5
    obtain ⟨h9, h8, h⟩ := h
    obtain ⟨mc7, ms8, ⟨hb1, hb2⟩, h⟩ := h
    refine xw_newa hf (pc := 28) dX9_write_28 (N := N5) (a0 := (N5, .inl (fun _ => 0))) mw_X9_write_3 rfl 0 rfl (fun _ => rfl) h9 eN5.symm h8 (Nat.le_trans (show 0 + 1 + 1 ≤ 0 + 1 + mc3 by omega) hk.1) (Nat.le_trans (show 0 + N1 + N5 ≤ 0 + N1 + ms4 by omega) hk.2) (fun q6 => ?_)
    have hk : 0 + 1 + 1 + mc7 ≤ (rm_X9_write mc ms).cells ∧ 0 + N1 + N5 + ms8 ≤ (rm_X9_write mc ms).slots := ⟨Nat.le_trans (show 0 + 1 + 1 + mc7 ≤ 0 + 1 + mc3 by omega) hk.1, Nat.le_trans (show 0 + N1 + N5 + ms8 ≤ 0 + N1 + ms4 by omega) hk.2⟩
    have h := h q6
    show ww x (W_X9_write (xg x) a0 a1 a2 a3 a4 a5 a6 a7 a8 a9 a10 v0 v1 v2 v3 v4 v5 v6 v7 v8 v9 v10 v11 v12 v13 v14 ++ [(q2, .inl (gJ (xg x), N1, .inr (.inl (fun _ => 0))))] ++ [(q6, .inl (gI (xg x), N5, .inl (fun _ => 0)))]) [(4, .ref q2), (0, .ref a0), (1, .long p1), (3, .int p3)] (0 + 1 + 1) (0 + N1 + N5) 30 [.ref q6]
    refine xw_astore hf (pc := 30) dX9_write_30 [(5, .ref q6), (4, .ref q2), (0, .ref a0), (1, .long p1), (3, .int p3)] hn (by decide) rfl ?_
    refine xw_iconst hf (pc := 32) dX9_write_32 (v := 2) (by decide) ?_
    refine xw_aload_n hf (pc := 33) dX9_write_33 rfl 2 rfl ?_
    refine xw_get hf (pc := 34) dX9_write_34 (T := TX9) mi_X9_write_X9 rfl 0 rfl 10 (by decide) rfl mw_X9_write_0 rfl ?_
    refine xw_imul hf (pc := 37) dX9_write_37 ?_
    obtain ⟨N9, eN9⟩ : ∃ z : Nat, z = (2 * v2).toNatClampNeg := ⟨_, rfl⟩
    have h := h N9 eN9
    obtain ⟨h9, h8, h⟩ := h
    obtain ⟨mc11, ms12, ⟨hb1, hb2⟩, h⟩ := h
    refine xw_newa hf (pc := 38) dX9_write_38 (N := N9) (a0 := (N9, .inl (fun _ => 0))) mw_X9_write_4 rfl 2 rfl (fun _ => rfl) h9 eN9.symm h8 (Nat.le_trans (show 0 + 1 + 1 + 1 ≤ 0 + 1 + 1 + mc7 by omega) hk.1) (Nat.le_trans (show 0 + N1 + N5 + N9 ≤ 0 + N1 + N5 + ms8 by omega) hk.2) (fun q10 => ?_)
    have hk : 0 + 1 + 1 + 1 + mc11 ≤ (rm_X9_write mc ms).cells ∧ 0 + N1 + N5 + N9 + ms12 ≤ (rm_X9_write mc ms).slots := ⟨Nat.le_trans (show 0 + 1 + 1 + 1 + mc11 ≤ 0 + 1 + 1 + mc7 by omega) hk.1, Nat.le_trans (show 0 + N1 + N5 + N9 + ms12 ≤ 0 + N1 + N5 + ms8 by omega) hk.2⟩
    have h := h q10
    show ww x (W_X9_write (xg x) a0 a1 a2 a3 a4 a5 a6 a7 a8 a9 a10 v0 v1 v2 v3 v4 v5 v6 v7 v8 v9 v10 v11 v12 v13 v14 ++ [(q2, .inl (gJ (xg x), N1, .inr (.inl (fun _ => 0))))] ++ [(q6, .inl (gI (xg x), N5, .inl (fun _ => 0)))] ++ [(q10, .inl (gZ (xg x), N9, .inl (fun _ => 0)))]) [(5, .ref q6), (4, .ref q2), (0, .ref a0), (1, .long p1), (3, .int p3)] (0 + 1 + 1 + 1) (0 + N1 + N5 + N9) 40 [.ref q10]
    refine xw_astore hf (pc := 40) dX9_write_40 [(6, .ref q10), (5, .ref q6), (4, .ref q2), (0, .ref a0), (1, .long p1), (3, .int p3)] hn (by decide) rfl ?_
    refine xw_iconst hf (pc := 42) dX9_write_42 (v := 0) (by decide) ?_
    refine xw_istore hf (pc := 43) dX9_write_43 [(7, .int 0), (6, .ref q10), (5, .ref q6), (4, .ref q2), (0, .ref a0), (1, .long p1), (3, .int p3)] hn (by decide) rfl ?_
    refine xw_L [4, 5, 6, 3, 2, 1, 0] rfl ?_
    refine w_X9_write_L45 hf hn ⟨(Nat.le_trans (Nat.le_add_right _ _) hk.1), (Nat.le_trans (Nat.le_add_right _ _) hk.2)⟩ a0 a1 a2 a3 a4 a5 a6 a7 a8 a9 a10 q2 q6 q10 p1 p3 v2 v7 v8 v10 v11 v13 v14 N1 N5 N9 v0 v1 v3 v4 v5 v6 v9 v12 FU _ _ _ _ h (fun w13 w14 w15 h => ?_)
    refine xw_aload_n hf (pc := 96) dX9_write_96 rfl 0 rfl ?_
    refine xw_aload hf (pc := 97) dX9_write_97 3 rfl ?_
    refine xw_put hf (pc := 99) dX9_write_99 (T := TX9) mi_X9_write_X9 rfl tyX9_ok nmX9 0 rfl 7 (by decide) rfl mw_X9_write_1 rfl rfl rfl rfl (Nat.le_of_ble_eq_true rfl) ([(a0, .inr (9, [.int v0, .ref a1, .int v1, .ref a2, .ref a3, .ref a4, .ref a5, .ref q2, .ref v9, .ref v12, .int v2, .int v3, .ref a6, .int v4, .ref a7, .ref a8, .ref a9, .ref a10, .int v5])), (v6, .inl (gJ (xg x), v7, .inr (.inl v8))), (v9, .inl (gI (xg x), v10, .inl v11)), (v12, .inl (gZ (xg x), v13, .inl v14))] ++ [(q2, .inl (gJ (xg x), N1, .inr (.inl w13)))] ++ [(q6, .inl (gI (xg x), N5, .inl w14))] ++ [(q10, .inl (gZ (xg x), N9, .inl w15))]) rfl ?_
    refine xw_X (sb_of [0, 4, 2, 3, 5, 6] rfl rfl) (show ww x (W_X9_write (xg x) a0 a1 a2 a3 a4 a5 a6 a7 a8 a9 a10 v0 v1 v2 v3 v4 v5 q2 N1 w13 v9 v10 v11 v12 v13 v14 ++ [(q6, .inl (gI (xg x), N5, .inl w14))] ++ [(q10, .inl (gZ (xg x), N9, .inl w15))]) [(0, .ref a0), (1, .long p1), (3, .int p3), (4, .ref q2), (5, .ref q6), (6, .ref q10)] (0 + 1 + 1 + 1) (0 + N1 + N5 + N9) 102 [] from ?_)
    refine xw_L [0, 1, 2, 4, 5] rfl ?_
    refine xw_aload_n hf (pc := 102) dX9_write_102 rfl 0 rfl ?_
    refine xw_aload hf (pc := 103) dX9_write_103 3 rfl ?_
    refine xw_put hf (pc := 105) dX9_write_105 (T := TX9) mi_X9_write_X9 rfl tyX9_ok nmX9 0 rfl 8 (by decide) rfl mw_X9_write_5 rfl rfl rfl rfl (Nat.le_of_ble_eq_true rfl) ([(a0, .inr (9, [.int v0, .ref a1, .int v1, .ref a2, .ref a3, .ref a4, .ref a5, .ref q2, .ref q6, .ref v12, .int v2, .int v3, .ref a6, .int v4, .ref a7, .ref a8, .ref a9, .ref a10, .int v5])), (q2, .inl (gJ (xg x), N1, .inr (.inl w13))), (v9, .inl (gI (xg x), v10, .inl v11)), (v12, .inl (gZ (xg x), v13, .inl v14))] ++ [(q6, .inl (gI (xg x), N5, .inl w14))] ++ [(q10, .inl (gZ (xg x), N9, .inl w15))]) rfl ?_
    refine xw_X (sb_of [0, 1, 4, 3, 5] rfl rfl) (show ww x (W_X9_write (xg x) a0 a1 a2 a3 a4 a5 a6 a7 a8 a9 a10 v0 v1 v2 v3 v4 v5 q2 N1 w13 q6 N5 w14 v12 v13 v14 ++ [(q10, .inl (gZ (xg x), N9, .inl w15))]) [(0, .ref a0), (1, .long p1), (3, .int p3), (5, .ref q6), (6, .ref q10)] (0 + 1 + 1 + 1) (0 + N1 + N5 + N9) 108 [] from ?_)
    refine xw_L [0, 1, 2, 4] rfl ?_
    refine xw_aload_n hf (pc := 108) dX9_write_108 rfl 0 rfl ?_
    refine xw_aload hf (pc := 109) dX9_write_109 3 rfl ?_
    refine xw_put hf (pc := 111) dX9_write_111 (T := TX9) mi_X9_write_X9 rfl tyX9_ok nmX9 0 rfl 9 (by decide) rfl mw_X9_write_6 rfl rfl rfl rfl (Nat.le_of_ble_eq_true rfl) ([(a0, .inr (9, [.int v0, .ref a1, .int v1, .ref a2, .ref a3, .ref a4, .ref a5, .ref q2, .ref q6, .ref q10, .int v2, .int v3, .ref a6, .int v4, .ref a7, .ref a8, .ref a9, .ref a10, .int v5])), (q2, .inl (gJ (xg x), N1, .inr (.inl w13))), (q6, .inl (gI (xg x), N5, .inl w14)), (v12, .inl (gZ (xg x), v13, .inl v14))] ++ [(q10, .inl (gZ (xg x), N9, .inl w15))]) rfl ?_
    refine xw_X (sb_of [0, 1, 2, 4] rfl rfl) (show ww x (W_X9_write (xg x) a0 a1 a2 a3 a4 a5 a6 a7 a8 a9 a10 v0 v1 v2 v3 v4 v5 q2 N1 w13 q6 N5 w14 q10 N9 w15) [(0, .ref a0), (1, .long p1), (3, .int p3), (6, .ref q10)] (0 + 1 + 1 + 1) (0 + N1 + N5 + N9) 114 [] from ?_)
    refine xw_L [0, 1, 2] rfl ?_
    refine xw_aload_n hf (pc := 114) dX9_write_114 rfl 0 rfl ?_
    refine xw_get hf (pc := 115) dX9_write_115 (T := TX9) mi_X9_write_X9 rfl 0 rfl 7 (by decide) rfl mw_X9_write_1 rfl ?_
    refine xw_aload_n hf (pc := 118) dX9_write_118 rfl 0 rfl ?_
    refine xw_get hf (pc := 119) dX9_write_119 (T := TX9) mi_X9_write_X9 rfl 0 rfl 10 (by decide) rfl mw_X9_write_0 rfl ?_
    refine xw_lload_n hf (pc := 122) dX9_write_122 rfl 1 rfl ?_
    refine xw_last hf (pc := 123) dX9_write_123 1 rfl h.1 (W_X9_write (xg x) a0 a1 a2 a3 a4 a5 a6 a7 a8 a9 a10 v0 v1 v2 v3 v4 v5 q2 N1 (vp_updL w13 v2.toNatClampNeg p1) q6 N5 w14 q10 N9 w15) rfl ?_
    have h := h.2
    refine xw_aload_n hf (pc := 124) dX9_write_124 rfl 0 rfl ?_
    refine xw_get hf (pc := 125) dX9_write_125 (T := TX9) mi_X9_write_X9 rfl 0 rfl 8 (by decide) rfl mw_X9_write_5 rfl ?_
    refine xw_aload_n hf (pc := 128) dX9_write_128 rfl 0 rfl ?_
    refine xw_get hf (pc := 129) dX9_write_129 (T := TX9) mi_X9_write_X9 rfl 0 rfl 10 (by decide) rfl mw_X9_write_0 rfl ?_
    refine xw_iload_n hf (pc := 132) dX9_write_132 rfl 2 rfl ?_
    refine xw_iast hf (pc := 133) dX9_write_133 2 rfl h.1 (W_X9_write (xg x) a0 a1 a2 a3 a4 a5 a6 a7 a8 a9 a10 v0 v1 v2 v3 v4 v5 q2 N1 (vp_updL w13 v2.toNatClampNeg p1) q6 N5 (upd w14 v2.toNatClampNeg p3) q10 N9 w15) rfl ?_
    have h := h.2
    refine xw_aload_n hf (pc := 134) dX9_write_134 rfl 0 rfl ?_
    refine xw_get hf (pc := 135) dX9_write_135 (T := TX9) mi_X9_write_X9 rfl 0 rfl 9 (by decide) rfl mw_X9_write_6 rfl ?_
    refine xw_aload_n hf (pc := 138) dX9_write_138 rfl 0 rfl ?_
    refine xw_get hf (pc := 139) dX9_write_139 (T := TX9) mi_X9_write_X9 rfl 0 rfl 10 (by decide) rfl mw_X9_write_0 rfl ?_
    refine xw_iconst hf (pc := 142) dX9_write_142 (v := 0) (by decide) ?_
    refine xw_zast hf (pc := 143) dX9_write_143 3 rfl h.1 (W_X9_write (xg x) a0 a1 a2 a3 a4 a5 a6 a7 a8 a9 a10 v0 v1 v2 v3 v4 v5 q2 N1 (vp_updL w13 v2.toNatClampNeg p1) q6 N5 (upd w14 v2.toNatClampNeg p3) q10 N9 (upd w15 v2.toNatClampNeg (vp_nar .boolean 0))) rfl ?_
    have h := h.2
    refine xw_aload_n hf (pc := 144) dX9_write_144 rfl 0 rfl ?_
    refine xw_dup hf (pc := 145) dX9_write_145 rfl ?_
    refine xw_get hf (pc := 146) dX9_write_146 (T := TX9) mi_X9_write_X9 rfl 0 rfl 10 (by decide) rfl mw_X9_write_0 rfl ?_
    refine xw_iconst hf (pc := 149) dX9_write_149 (v := 1) (by decide) ?_
    refine xw_iadd hf (pc := 150) dX9_write_150 ?_
    refine xw_put hf (pc := 151) dX9_write_151 (T := TX9) mi_X9_write_X9 rfl tyX9_ok nmX9 0 rfl 10 (by decide) rfl mw_X9_write_0 rfl rfl rfl rfl (Nat.le_of_ble_eq_true rfl) (W_X9_write (xg x) a0 a1 a2 a3 a4 a5 a6 a7 a8 a9 a10 v0 v1 (v2 + 1) v3 v4 v5 q2 N1 (vp_updL w13 v2.toNatClampNeg p1) q6 N5 (upd w14 v2.toNatClampNeg p3) q10 N9 (upd w15 v2.toNatClampNeg (vp_nar .boolean 0))) rfl ?_
    refine xw_aload_n hf (pc := 154) dX9_write_154 rfl 0 rfl ?_
    refine xw_dup hf (pc := 155) dX9_write_155 rfl ?_
    refine xw_get hf (pc := 156) dX9_write_156 (T := TX9) mi_X9_write_X9 rfl 0 rfl 11 (by decide) rfl mw_X9_write_7 rfl ?_
    refine xw_iload_n hf (pc := 159) dX9_write_159 rfl 2 rfl ?_
    refine xw_iadd hf (pc := 160) dX9_write_160 ?_
    refine xw_put hf (pc := 161) dX9_write_161 (T := TX9) mi_X9_write_X9 rfl tyX9_ok nmX9 0 rfl 11 (by decide) rfl mw_X9_write_7 rfl rfl rfl rfl (Nat.le_of_ble_eq_true rfl) (W_X9_write (xg x) a0 a1 a2 a3 a4 a5 a6 a7 a8 a9 a10 v0 v1 (v2 + 1) (v3 + p3) v4 v5 q2 N1 (vp_updL w13 v2.toNatClampNeg p1) q6 N5 (upd w14 v2.toNatClampNeg p3) q10 N9 (upd w15 v2.toNatClampNeg (vp_nar .boolean 0))) rfl ?_
    exact xw_vret hf (pc := 164) dX9_write_164 hr (Nat.le_trans (Nat.le_add_right _ _) hk.1) (Nat.le_trans (Nat.le_add_right _ _) hk.2) ⟨_, _, _, _, _, _, _, _, _, _, _, rfl, rfl, h⟩
  · have h := h.2 c
    refine xw_aload_n hf (pc := 114) dX9_write_114 rfl 0 rfl ?_
    refine xw_get hf (pc := 115) dX9_write_115 (T := TX9) mi_X9_write_X9 rfl 0 rfl 7 (by decide) rfl mw_X9_write_1 rfl ?_
    refine xw_aload_n hf (pc := 118) dX9_write_118 rfl 0 rfl ?_
    refine xw_get hf (pc := 119) dX9_write_119 (T := TX9) mi_X9_write_X9 rfl 0 rfl 10 (by decide) rfl mw_X9_write_0 rfl ?_
    refine xw_lload_n hf (pc := 122) dX9_write_122 rfl 1 rfl ?_
    refine xw_last hf (pc := 123) dX9_write_123 1 rfl h.1 (W_X9_write (xg x) a0 a1 a2 a3 a4 a5 a6 a7 a8 a9 a10 v0 v1 v2 v3 v4 v5 v6 v7 (vp_updL v8 v2.toNatClampNeg p1) v9 v10 v11 v12 v13 v14) rfl ?_
    have h := h.2
    refine xw_aload_n hf (pc := 124) dX9_write_124 rfl 0 rfl ?_
    refine xw_get hf (pc := 125) dX9_write_125 (T := TX9) mi_X9_write_X9 rfl 0 rfl 8 (by decide) rfl mw_X9_write_5 rfl ?_
    refine xw_aload_n hf (pc := 128) dX9_write_128 rfl 0 rfl ?_
    refine xw_get hf (pc := 129) dX9_write_129 (T := TX9) mi_X9_write_X9 rfl 0 rfl 10 (by decide) rfl mw_X9_write_0 rfl ?_
    refine xw_iload_n hf (pc := 132) dX9_write_132 rfl 2 rfl ?_
    refine xw_iast hf (pc := 133) dX9_write_133 2 rfl h.1 (W_X9_write (xg x) a0 a1 a2 a3 a4 a5 a6 a7 a8 a9 a10 v0 v1 v2 v3 v4 v5 v6 v7 (vp_updL v8 v2.toNatClampNeg p1) v9 v10 (upd v11 v2.toNatClampNeg p3) v12 v13 v14) rfl ?_
    have h := h.2
    refine xw_aload_n hf (pc := 134) dX9_write_134 rfl 0 rfl ?_
    refine xw_get hf (pc := 135) dX9_write_135 (T := TX9) mi_X9_write_X9 rfl 0 rfl 9 (by decide) rfl mw_X9_write_6 rfl ?_
    refine xw_aload_n hf (pc := 138) dX9_write_138 rfl 0 rfl ?_
    refine xw_get hf (pc := 139) dX9_write_139 (T := TX9) mi_X9_write_X9 rfl 0 rfl 10 (by decide) rfl mw_X9_write_0 rfl ?_
    refine xw_iconst hf (pc := 142) dX9_write_142 (v := 0) (by decide) ?_
    refine xw_zast hf (pc := 143) dX9_write_143 3 rfl h.1 (W_X9_write (xg x) a0 a1 a2 a3 a4 a5 a6 a7 a8 a9 a10 v0 v1 v2 v3 v4 v5 v6 v7 (vp_updL v8 v2.toNatClampNeg p1) v9 v10 (upd v11 v2.toNatClampNeg p3) v12 v13 (upd v14 v2.toNatClampNeg (vp_nar .boolean 0))) rfl ?_
    have h := h.2
    refine xw_aload_n hf (pc := 144) dX9_write_144 rfl 0 rfl ?_
    refine xw_dup hf (pc := 145) dX9_write_145 rfl ?_
    refine xw_get hf (pc := 146) dX9_write_146 (T := TX9) mi_X9_write_X9 rfl 0 rfl 10 (by decide) rfl mw_X9_write_0 rfl ?_
    refine xw_iconst hf (pc := 149) dX9_write_149 (v := 1) (by decide) ?_
    refine xw_iadd hf (pc := 150) dX9_write_150 ?_
    refine xw_put hf (pc := 151) dX9_write_151 (T := TX9) mi_X9_write_X9 rfl tyX9_ok nmX9 0 rfl 10 (by decide) rfl mw_X9_write_0 rfl rfl rfl rfl (Nat.le_of_ble_eq_true rfl) (W_X9_write (xg x) a0 a1 a2 a3 a4 a5 a6 a7 a8 a9 a10 v0 v1 (v2 + 1) v3 v4 v5 v6 v7 (vp_updL v8 v2.toNatClampNeg p1) v9 v10 (upd v11 v2.toNatClampNeg p3) v12 v13 (upd v14 v2.toNatClampNeg (vp_nar .boolean 0))) rfl ?_
    refine xw_aload_n hf (pc := 154) dX9_write_154 rfl 0 rfl ?_
    refine xw_dup hf (pc := 155) dX9_write_155 rfl ?_
    refine xw_get hf (pc := 156) dX9_write_156 (T := TX9) mi_X9_write_X9 rfl 0 rfl 11 (by decide) rfl mw_X9_write_7 rfl ?_
    refine xw_iload_n hf (pc := 159) dX9_write_159 rfl 2 rfl ?_
    refine xw_iadd hf (pc := 160) dX9_write_160 ?_
    refine xw_put hf (pc := 161) dX9_write_161 (T := TX9) mi_X9_write_X9 rfl tyX9_ok nmX9 0 rfl 11 (by decide) rfl mw_X9_write_7 rfl rfl rfl rfl (Nat.le_of_ble_eq_true rfl) (W_X9_write (xg x) a0 a1 a2 a3 a4 a5 a6 a7 a8 a9 a10 v0 v1 (v2 + 1) (v3 + p3) v4 v5 v6 v7 (vp_updL v8 v2.toNatClampNeg p1) v9 v10 (upd v11 v2.toNatClampNeg p3) v12 v13 (upd v14 v2.toNatClampNeg (vp_nar .boolean 0))) rfl ?_
    exact xw_vret hf (pc := 164) dX9_write_164 hr (Nat.le_trans (Nat.le_add_right _ _) hk.1) (Nat.le_trans (Nat.le_add_right _ _) hk.2) ⟨_, _, _, _, _, _, _, _, _, _, _, rfl, rfl, h⟩
abbrev W_X9_sellNow (g : Gx) (a0 a1 a2 a3 a4 a5 a6 a7 a8 a9 a10 : Nat) (v0 : Int32) (v1 : Int32) (v2 : Int32) (v3 : Int32) (v4 : Int32) (v5 : Int32) (v6 : Nat → Int32) (v7 : Nat → Int32) (v8 : Nat → Int32) (v9 : Nat) (v10 : Nat) (v11 : Nat → Int64) (v12 : Nat) (v13 : Nat) (v14 : Nat → Int32) (v15 : Nat) (v16 : Nat) (v17 : Nat → Int32) (v18 : Nat → Int32) (v19 : Nat → Int32) (v20 : Nat → Int32) : va_W := [(a0, .inr (9, [.int v0, .ref a7, .int v1, .ref a1, .ref a2, .ref a8, .ref a3, .ref v9, .ref v12, .ref v15, .int v2, .int v3, .ref a4, .int v4, .ref a5, .ref a6, .ref a9, .ref a10, .int v5])), (a1, .inl (gI g, 27, .inl v6)), (a2, .inl (gI g, 27, .inl v7)), (a3, .inl (gI g, 27, .inl v8)), (v9, .inl (gJ g, v10, .inr (.inl v11))), (v12, .inl (gI g, v13, .inl v14)), (v15, .inl (gZ g, v16, .inl v17)), (a4, .inl (gI g, 12, .inl v18)), (a5, .inl (gI g, 27, .inl v19)), (a6, .inl (gI g, 27, .inl v20))]
abbrev rm_X9_sellNow (mc ms : Nat) : Room := { frames := 3, cells := mc, slots := ms, locals := 67 }
theorem mw_X9_sellNow_0 : (Cond.fieldLink RX9 69 "AnagramButcherModel" "speltCount" "I" : Cond) ∈ wsX9_sellNow := (List.mem_cons_of_mem _ (List.mem_append_left _ (List.mem_append_left _ (List.mem_of_getElem? (l := wsX9_sellNow_r1) (i := 0) rfl))))
theorem mw_X9_sellNow_1 : (Cond.fieldLink RX9 13 "AnagramButcherModel" "stock" "[I" : Cond) ∈ wsX9_sellNow := (List.mem_cons_of_mem _ (List.mem_append_left _ (List.mem_append_left _ (List.mem_of_getElem? (l := wsX9_sellNow_r1) (i := 1) rfl))))
theorem mw_X9_sellNow_2 : (Cond.fieldLink RX9 36 "AnagramButcherModel" "spelt" "[I" : Cond) ∈ wsX9_sellNow := (List.mem_cons_of_mem _ (List.mem_append_left _ (List.mem_append_left _ (List.mem_of_getElem? (l := wsX9_sellNow_r1) (i := 2) rfl))))
theorem mw_X9_sellNow_3 : (Cond.fieldLink RX9 23 "AnagramButcherModel" "sold" "[I" : Cond) ∈ wsX9_sellNow := (List.mem_cons_of_mem _ (List.mem_append_left _ (List.mem_append_left _ (List.mem_of_getElem? (l := wsX9_sellNow_r1) (i := 3) rfl))))
theorem mi_X9_sellNow_X9 : ∀ w ∈ wsX90, w ∈ wsX9_sellNow := fun _ h => (List.mem_cons_of_mem _ (List.mem_append_right _ h))
set_option maxHeartbeats 4000000 in
set_option maxRecDepth 100000 in
theorem w_X9_sellNow_L13 {x : Cx} {mc ms : Nat} (hf : fx x (rm_X9_sellNow mc ms) RX9 cX9_sellNow wsX9_sellNow) (hn : xn x = 5) {k0 n0 : Nat} (hk : k0 ≤ (rm_X9_sellNow mc ms).cells ∧ n0 ≤ (rm_X9_sellNow mc ms).slots) (a0 a1 a2 a3 a4 a5 a6 a7 a8 a9 a10 : Nat) (z1 : Int64) (z3 : Int32) (v4 : Int32) (v18 : Nat → Int32) (v0 : Int32) (v1 : Int32) (v2 : Int32) (v3 : Int32) (v5 : Int32) (v7 : Nat → Int32) (v9 : Nat) (v10 : Nat) (v11 : Nat → Int64) (v12 : Nat) (v13 : Nat) (v14 : Nat → Int32) (v15 : Nat) (v16 : Nat) (v17 : Nat → Int32) (v19 : Nat → Int32) (v20 : Nat → Int32) {K60 : (Nat → Int32) → (Nat → Int32) → Prop}
    (n : Nat) (z4 : Int32) (v6 : Nat → Int32) (v8 : Nat → Int32) (h : P_X9_sellNow_L13 z1 z3 v4 v18 K60 n z4 v6 v8)
    (hK60 : ∀ (uv6 : Nat → Int32), ∀ (uv8 : Nat → Int32), K60 uv6 uv8 → ww x (W_X9_sellNow (xg x) a0 a1 a2 a3 a4 a5 a6 a7 a8 a9 a10 v0 v1 v2 v3 v4 v5 uv6 v7 uv8 v9 v10 v11 v12 v13 v14 v15 v16 v17 v18 v19 v20) [(0, .ref a0), (1, .long z1), (3, .int z3)] k0 n0 60 []) :
    ww x (W_X9_sellNow (xg x) a0 a1 a2 a3 a4 a5 a6 a7 a8 a9 a10 v0 v1 v2 v3 v4 v5 v6 v7 v8 v9 v10 v11 v12 v13 v14 v15 v16 v17 v18 v19 v20) [(0, .ref a0), (1, .long z1), (3, .int z3), (4, .int z4)] k0 n0 13 [] := by
  induction n generalizing z4 v6 v8 with
  | zero => exact h.elim
  | succ n ih =>
    unfold P_X9_sellNow_L13 at h
    refine xw_iload hf (pc := 13) dX9_sellNow_13 3 rfl ?_
    refine xw_aload_n hf (pc := 15) dX9_sellNow_15 rfl 0 rfl ?_
    refine xw_get hf (pc := 16) dX9_sellNow_16 (T := TX9) mi_X9_sellNow_X9 rfl 0 rfl 13 (by decide) rfl mw_X9_sellNow_0 rfl ?_
    refine xw_icmp_ge hf (pc := 19) dX9_sellNow_19 (tgt := 60) rfl ⟨fun c => ?_, fun c => ?_⟩
    · have h := h.1 c
      refine xw_L [0, 1, 2] rfl ?_
      exact hK60 _ _ h
    · have h := h.2 c
      refine xw_aload_n hf (pc := 22) dX9_sellNow_22 rfl 0 rfl ?_
      refine xw_get hf (pc := 23) dX9_sellNow_23 (T := TX9) mi_X9_sellNow_X9 rfl 0 rfl 3 (by decide) rfl mw_X9_sellNow_1 rfl ?_
      refine xw_aload_n hf (pc := 26) dX9_sellNow_26 rfl 0 rfl ?_
      refine xw_get hf (pc := 27) dX9_sellNow_27 (T := TX9) mi_X9_sellNow_X9 rfl 0 rfl 12 (by decide) rfl mw_X9_sellNow_2 rfl ?_
      refine xw_iload hf (pc := 30) dX9_sellNow_30 3 rfl ?_
      refine xw_iald hf (pc := 32) dX9_sellNow_32 7 rfl h.1 ?_
      have h := h.2
      refine xw_dup2 hf (pc := 33) dX9_sellNow_33 rfl rfl ?_
      refine xw_iald hf (pc := 34) dX9_sellNow_34 1 rfl h.1 ?_
      have h := h.2
      refine xw_iconst hf (pc := 35) dX9_sellNow_35 (v := 1) (by decide) ?_
      refine xw_isub hf (pc := 36) dX9_sellNow_36 ?_
      refine xw_iast hf (pc := 37) dX9_sellNow_37 1 rfl h.1 (W_X9_sellNow (xg x) a0 a1 a2 a3 a4 a5 a6 a7 a8 a9 a10 v0 v1 v2 v3 v4 v5 (upd v6 (v18 z4.toNatClampNeg).toNatClampNeg ((v6 (v18 z4.toNatClampNeg).toNatClampNeg) - 1)) v7 v8 v9 v10 v11 v12 v13 v14 v15 v16 v17 v18 v19 v20) rfl ?_
      have h := h.2
      refine xw_aload_n hf (pc := 38) dX9_sellNow_38 rfl 0 rfl ?_
      refine xw_get hf (pc := 39) dX9_sellNow_39 (T := TX9) mi_X9_sellNow_X9 rfl 0 rfl 6 (by decide) rfl mw_X9_sellNow_3 rfl ?_
      refine xw_aload_n hf (pc := 42) dX9_sellNow_42 rfl 0 rfl ?_
      refine xw_get hf (pc := 43) dX9_sellNow_43 (T := TX9) mi_X9_sellNow_X9 rfl 0 rfl 12 (by decide) rfl mw_X9_sellNow_2 rfl ?_
      refine xw_iload hf (pc := 46) dX9_sellNow_46 3 rfl ?_
      refine xw_iald hf (pc := 48) dX9_sellNow_48 7 rfl h.1 ?_
      have h := h.2
      refine xw_dup2 hf (pc := 49) dX9_sellNow_49 rfl rfl ?_
      refine xw_iald hf (pc := 50) dX9_sellNow_50 3 rfl h.1 ?_
      have h := h.2
      refine xw_iconst hf (pc := 51) dX9_sellNow_51 (v := 1) (by decide) ?_
      refine xw_iadd hf (pc := 52) dX9_sellNow_52 ?_
      refine xw_iast hf (pc := 53) dX9_sellNow_53 3 rfl h.1 (W_X9_sellNow (xg x) a0 a1 a2 a3 a4 a5 a6 a7 a8 a9 a10 v0 v1 v2 v3 v4 v5 (upd v6 (v18 z4.toNatClampNeg).toNatClampNeg ((v6 (v18 z4.toNatClampNeg).toNatClampNeg) - 1)) v7 (upd v8 (v18 z4.toNatClampNeg).toNatClampNeg ((v8 (v18 z4.toNatClampNeg).toNatClampNeg) + 1)) v9 v10 v11 v12 v13 v14 v15 v16 v17 v18 v19 v20) rfl ?_
      have h := h.2
      refine xw_iinc hf (pc := 54) dX9_sellNow_54 (v := z4 + 1) 3 rfl rfl [(4, .int (z4 + 1)), (0, .ref a0), (1, .long z1), (3, .int z3)] hn (by decide) rfl ?_
      refine xw_goto hf (pc := 57) dX9_sellNow_57 (tgt := 13) rfl ?_
      refine xw_L [1, 2, 3, 0] rfl ?_
      exact ih _ _ _ h
set_option maxHeartbeats 4000000 in
set_option maxRecDepth 100000 in
theorem c_X9_sellNow (l : Launch) (g : Gx) (a0 a1 a2 a3 a4 a5 a6 a7 a8 a9 a10 : Nat) (v0 : Int32) (v1 : Int32) (v2 : Int32) (v3 : Int32) (v4 : Int32) (v5 : Int32) (v6 : Nat → Int32) (v7 : Nat → Int32) (v8 : Nat → Int32) (v9 : Nat) (v10 : Nat) (v11 : Nat → Int64) (v12 : Nat) (v13 : Nat) (v14 : Nat → Int32) (v15 : Nat) (v16 : Nat) (v17 : Nat → Int32) (v18 : Nat → Int32) (v19 : Nat → Int32) (v20 : Nat → Int32) (p1 : Int64) {post : Int32 → Int32 → Int32 → Int32 → (Nat → Int32) → (Nat → Int32) → Nat → Nat → (Nat → Int64) → Nat → Nat → (Nat → Int32) → Nat → Nat → (Nat → Int32) → (Nat → Int32) → (Nat → Int32) → (Nat → Int32) → Prop} {mc ms : Nat} (h : P_X9_sellNow post mc ms p1 v0 v1 v2 v3 v4 v5 v6 v7 v8 v9 v10 v11 v12 v13 v14 v15 v16 v17 v18 v19 v20) : cm l g yX9_sellNow wsX9_sellNow (rm_X9_sellNow mc ms) [.ref a0, .long p1] (W_X9_sellNow g a0 a1 a2 a3 a4 a5 a6 a7 a8 a9 a10 v0 v1 v2 v3 v4 v5 v6 v7 v8 v9 v10 v11 v12 v13 v14 v15 v16 v17 v18 v19 v20) (fun v X1 => ∃ (r : Int32) (uv2 : Int32) (uv3 : Int32) (uv4 : Int32) (uv6 : Nat → Int32) (uv8 : Nat → Int32) (uv9 : Nat) (uv10 : Nat) (uv11 : Nat → Int64) (uv12 : Nat) (uv13 : Nat) (uv14 : Nat → Int32) (uv15 : Nat) (uv16 : Nat) (uv17 : Nat → Int32) (uv18 : Nat → Int32) (uv19 : Nat → Int32) (uv20 : Nat → Int32), v = some (.int r) ∧ X1 = W_X9_sellNow g a0 a1 a2 a3 a4 a5 a6 a7 a8 a9 a10 v0 v1 uv2 uv3 uv4 v5 uv6 v7 uv8 uv9 uv10 uv11 uv12 uv13 uv14 uv15 uv16 uv17 uv18 uv19 uv20 ∧ post r uv2 uv3 uv4 uv6 uv8 uv9 uv10 uv11 uv12 uv13 uv14 uv15 uv16 uv17 uv18 uv19 uv20) := by
  refine cm_of (cc := cX9_sellNow) (nL := 5) (ret := (some .int)) (by decide +kernel) rfl (Nat.le_of_ble_eq_true rfl) ?_
  intro x hf hl hg hn hi hr
  subst hl
  subst hg
  show ww x (W_X9_sellNow (xg x) a0 a1 a2 a3 a4 a5 a6 a7 a8 a9 a10 v0 v1 v2 v3 v4 v5 v6 v7 v8 v9 v10 v11 v12 v13 v14 v15 v16 v17 v18 v19 v20) [(0, .ref a0), (1, .long p1)] 0 0 0 []
  unfold P_X9_sellNow at h
  have hk : 0 + mc ≤ (rm_X9_sellNow mc ms).cells ∧ 0 + ms ≤ (rm_X9_sellNow mc ms).slots := ⟨Nat.le_of_eq (Nat.zero_add mc), Nat.le_of_eq (Nat.zero_add ms)⟩
  refine xw_aload_n hf (pc := 0) dX9_sellNow_0 rfl 0 rfl ?_
  refine xw_lload_n hf (pc := 1) dX9_sellNow_1 rfl 1 rfl ?_
  refine xw_callV hf (pc := 2) (nA := 1) (Xr := [(a1, .inl (gI (xg x), 27, .inl v6)), (a2, .inl (gI (xg x), 27, .inl v7)), (a3, .inl (gI (xg x), 27, .inl v8)), (v9, .inl (gJ (xg x), v10, .inr (.inl v11))), (v12, .inl (gI (xg x), v13, .inl v14)), (v15, .inl (gZ (xg x), v16, .inl v17)), (a6, .inl (gI (xg x), 27, .inl v20))]) (rest := []) (T := TX9) (c_X9_spell (xl x) (xg x) a0 a4 a5 a7 a1 a2 a8 a3 v9 v12 v15 a6 a9 a10 v0 v1 v2 v3 v4 v5 v18 v19 p1 h) gX9_sellNow_X9_spell (by rfl) rfl rfl (by decide +kernel) ⟨⟨(Nat.le_of_ble_eq_true rfl), (Nat.le_of_ble_eq_true rfl)⟩, (Nat.le_trans (Nat.le_add_right _ _) hk.1), (Nat.le_trans (Nat.le_add_right _ _) hk.2)⟩ (Nat.le_of_ble_eq_true rfl) rfl rfl (sb_of [0, 7, 8, 1, 2, 3, 4, 5, 6, 9] rfl rfl) rfl dX9_sellNow_2 (fun v X1 hp => ?_)
  obtain ⟨w2, w3, w4, rfl, rfl, h⟩ := hp
  refine xw_X (sb_of [0, 3, 4, 5, 6, 7, 8, 1, 2, 9] rfl rfl) (show ww x (W_X9_sellNow (xg x) a0 a1 a2 a3 a4 a5 a6 a7 a8 a9 a10 v0 v1 v2 v3 w2 v5 v6 v7 v8 v9 v10 v11 v12 v13 v14 v15 v16 v17 w3 w4 v20) [(0, .ref a0), (1, .long p1)] 0 0 5 [] from ?_)
  refine xw_aload_n hf (pc := 5) dX9_sellNow_5 rfl 0 rfl ?_
  refine xw_callV hf (pc := 6) (nA := 0) (Xr := [(a3, .inl (gI (xg x), 27, .inl v8)), (v9, .inl (gJ (xg x), v10, .inr (.inl v11))), (v12, .inl (gI (xg x), v13, .inl v14)), (v15, .inl (gZ (xg x), v16, .inl v17)), (a5, .inl (gI (xg x), 27, .inl w4))]) (rest := []) (T := TX9) (c_X9_cost (xl x) (xg x) a0 a1 a2 a4 a6 a7 a8 a3 v9 v12 v15 a5 a9 a10 v0 v1 v2 v3 w2 v5 v6 v7 w3 v20 h) gX9_sellNow_X9_cost (by rfl) rfl rfl (by decide +kernel) ⟨⟨(Nat.le_of_ble_eq_true rfl), (Nat.le_of_ble_eq_true rfl)⟩, (Nat.le_trans (Nat.le_add_right _ _) hk.1), (Nat.le_trans (Nat.le_add_right _ _) hk.2)⟩ (Nat.le_of_ble_eq_true rfl) rfl rfl (sb_of [0, 1, 2, 7, 9, 3, 4, 5, 6, 8] rfl rfl) rfl dX9_sellNow_6 (fun v X1 hp => ?_)
  obtain ⟨r5, w6, rfl, rfl, h⟩ := hp
  refine xw_X (sb_of [0, 1, 2, 5, 6, 7, 8, 3, 9, 4] rfl rfl) (show ww x (W_X9_sellNow (xg x) a0 a1 a2 a3 a4 a5 a6 a7 a8 a9 a10 v0 v1 v2 v3 w2 v5 v6 v7 v8 v9 v10 v11 v12 v13 v14 v15 v16 v17 w3 w4 w6) [(0, .ref a0), (1, .long p1)] 0 0 9 [.int r5] from ?_)
  refine xw_istore_n hf (pc := 9) dX9_sellNow_9 rfl [(3, .int r5), (0, .ref a0), (1, .long p1)] hn (by decide) rfl ?_
  refine xw_iconst hf (pc := 10) dX9_sellNow_10 (v := 0) (by decide) ?_
  refine xw_istore hf (pc := 11) dX9_sellNow_11 [(4, .int 0), (3, .int r5), (0, .ref a0), (1, .long p1)] hn (by decide) rfl ?_
  refine xw_L [2, 3, 1, 0] rfl ?_
  refine w_X9_sellNow_L13 hf hn ⟨(Nat.le_trans (Nat.le_add_right _ _) hk.1), (Nat.le_trans (Nat.le_add_right _ _) hk.2)⟩ a0 a1 a2 a3 a4 a5 a6 a7 a8 a9 a10 p1 r5 w2 w3 v0 v1 v2 v3 v5 v7 v9 v10 v11 v12 v13 v14 v15 v16 v17 w4 w6 FU _ _ _ h (fun w7 w8 h => ?_)
  refine xw_aload_n hf (pc := 60) dX9_sellNow_60 rfl 0 rfl ?_
  refine xw_lload_n hf (pc := 61) dX9_sellNow_61 rfl 1 rfl ?_
  refine xw_iload_n hf (pc := 62) dX9_sellNow_62 rfl 2 rfl ?_
  obtain ⟨mc21, ms22, mc23, ms24, ⟨hb1, hb2⟩, h⟩ := h
  refine xw_callV hf (pc := 63) (nA := 2) (Xr := [(a1, .inl (gI (xg x), 27, .inl w7)), (a2, .inl (gI (xg x), 27, .inl v7)), (a3, .inl (gI (xg x), 27, .inl w8)), (a4, .inl (gI (xg x), 12, .inl w3)), (a5, .inl (gI (xg x), 27, .inl w4)), (a6, .inl (gI (xg x), 27, .inl w6))]) (rest := []) (T := TX9) (c_X9_write (xl x) (xg x) a0 a7 a1 a2 a8 a3 a4 a5 a6 a9 a10 v0 v1 v2 v3 w2 v5 v9 v10 v11 v12 v13 v14 v15 v16 v17 p1 r5 h) gX9_sellNow_X9_write (by rfl) rfl rfl (by decide +kernel) ⟨⟨(Nat.le_of_ble_eq_true rfl), (Nat.le_of_ble_eq_true rfl)⟩, (Nat.le_trans (show 0 + mc21 ≤ 0 + mc by omega) hk.1), (Nat.le_trans (show 0 + ms22 ≤ 0 + ms by omega) hk.2)⟩ (Nat.le_of_ble_eq_true rfl) rfl rfl (sb_of [0, 4, 5, 6, 1, 2, 3, 7, 8, 9] rfl rfl) rfl dX9_sellNow_63 (fun v X1 hp => ?_)
  obtain ⟨w10, w11, w12, w13, w14, w15, w16, w17, w18, w19, w20, rfl, rfl, h⟩ := hp
  have hk : 0 + mc21 + mc23 ≤ (rm_X9_sellNow mc ms).cells ∧ 0 + ms22 + ms24 ≤ (rm_X9_sellNow mc ms).slots := ⟨Nat.le_trans (show 0 + mc21 + mc23 ≤ 0 + mc by omega) hk.1, Nat.le_trans (show 0 + ms22 + ms24 ≤ 0 + ms by omega) hk.2⟩
  refine xw_X (sb_of [0, 4, 5, 6, 1, 2, 3, 7, 8, 9] rfl rfl) (show ww x (W_X9_sellNow (xg x) a0 a1 a2 a3 a4 a5 a6 a7 a8 a9 a10 v0 v1 w10 w11 w2 v5 w7 v7 w8 w12 w13 w14 w15 w16 w17 w18 w19 w20 w3 w4 w6) [(0, .ref a0), (1, .long p1), (3, .int r5)] (0 + mc21) (0 + ms22) 66 [] from ?_)
  refine xw_iload_n hf (pc := 66) dX9_sellNow_66 rfl 2 rfl ?_
  exact xw_iret hf (pc := 67) dX9_sellNow_67 hr (Nat.le_trans (Nat.le_add_right _ _) hk.1) (Nat.le_trans (Nat.le_add_right _ _) hk.2) ⟨_, _, _, _, _, _, _, _, _, _, _, _, _, _, _, _, _, _, rfl, rfl, h⟩
abbrev W_X9_sell (g : Gx) (a0 a1 a2 a3 a4 a5 a6 a7 a8 a9 a10 : Nat) (v0 : Int32) (v1 : Int32) (v2 : Int32) (v3 : Int32) (v4 : Int32) (v5 : Int32) (v6 : Nat → Int64) (v7 : Nat → Int32) (v8 : Nat → Int32) (v9 : Nat → Int32) (v10 : Nat) (v11 : Nat) (v12 : Nat → Int64) (v13 : Nat) (v14 : Nat) (v15 : Nat → Int32) (v16 : Nat) (v17 : Nat) (v18 : Nat → Int32) (v19 : Nat → Int32) (v20 : Nat → Int32) (v21 : Nat → Int32) : va_W := [(a0, .inr (9, [.int v0, .ref a1, .int v1, .ref a2, .ref a3, .ref a8, .ref a4, .ref v10, .ref v13, .ref v16, .int v2, .int v3, .ref a5, .int v4, .ref a6, .ref a7, .ref a9, .ref a10, .int v5])), (a1, .inl (gJ g, 60, .inr (.inl v6))), (a2, .inl (gI g, 27, .inl v7)), (a3, .inl (gI g, 27, .inl v8)), (a4, .inl (gI g, 27, .inl v9)), (v10, .inl (gJ g, v11, .inr (.inl v12))), (v13, .inl (gI g, v14, .inl v15)), (v16, .inl (gZ g, v17, .inl v18)), (a5, .inl (gI g, 12, .inl v19)), (a6, .inl (gI g, 27, .inl v20)), (a7, .inl (gI g, 27, .inl v21))]
abbrev rm_X9_sell (mc ms : Nat) : Room := { frames := 4, cells := mc, slots := ms, locals := 91 }
set_option maxHeartbeats 4000000 in
set_option maxRecDepth 100000 in
theorem c_X9_sell (l : Launch) (g : Gx) (a0 a1 a2 a3 a4 a5 a6 a7 a8 a9 a10 : Nat) (v0 : Int32) (v1 : Int32) (v2 : Int32) (v3 : Int32) (v4 : Int32) (v5 : Int32) (v6 : Nat → Int64) (v7 : Nat → Int32) (v8 : Nat → Int32) (v9 : Nat → Int32) (v10 : Nat) (v11 : Nat) (v12 : Nat → Int64) (v13 : Nat) (v14 : Nat) (v15 : Nat → Int32) (v16 : Nat) (v17 : Nat) (v18 : Nat → Int32) (v19 : Nat → Int32) (v20 : Nat → Int32) (v21 : Nat → Int32) (p1 : Int64) (p3 : Int32) {post : Int32 → Int32 → Int32 → Int32 → Int32 → (Nat → Int32) → (Nat → Int32) → Nat → Nat → (Nat → Int64) → Nat → Nat → (Nat → Int32) → Nat → Nat → (Nat → Int32) → (Nat → Int32) → (Nat → Int32) → (Nat → Int32) → Prop} {mc ms : Nat} (h : P_X9_sell post mc ms p1 p3 v0 v1 v2 v3 v4 v5 v6 v7 v8 v9 v10 v11 v12 v13 v14 v15 v16 v17 v18 v19 v20 v21) : cm l g yX9_sell wsX9_sell (rm_X9_sell mc ms) [.ref a0, .long p1, .int p3] (W_X9_sell g a0 a1 a2 a3 a4 a5 a6 a7 a8 a9 a10 v0 v1 v2 v3 v4 v5 v6 v7 v8 v9 v10 v11 v12 v13 v14 v15 v16 v17 v18 v19 v20 v21) (fun v X1 => ∃ (r : Int32) (uv0 : Int32) (uv2 : Int32) (uv3 : Int32) (uv4 : Int32) (uv7 : Nat → Int32) (uv9 : Nat → Int32) (uv10 : Nat) (uv11 : Nat) (uv12 : Nat → Int64) (uv13 : Nat) (uv14 : Nat) (uv15 : Nat → Int32) (uv16 : Nat) (uv17 : Nat) (uv18 : Nat → Int32) (uv19 : Nat → Int32) (uv20 : Nat → Int32) (uv21 : Nat → Int32), v = some (.int r) ∧ X1 = W_X9_sell g a0 a1 a2 a3 a4 a5 a6 a7 a8 a9 a10 uv0 v1 uv2 uv3 uv4 v5 v6 uv7 v8 uv9 uv10 uv11 uv12 uv13 uv14 uv15 uv16 uv17 uv18 uv19 uv20 uv21 ∧ post r uv0 uv2 uv3 uv4 uv7 uv9 uv10 uv11 uv12 uv13 uv14 uv15 uv16 uv17 uv18 uv19 uv20 uv21) := by
  refine cm_of (cc := cX9_sell) (nL := 4) (ret := (some .int)) (by decide +kernel) rfl (Nat.le_of_ble_eq_true rfl) ?_
  intro x hf hl hg hn hi hr
  subst hl
  subst hg
  show ww x (W_X9_sell (xg x) a0 a1 a2 a3 a4 a5 a6 a7 a8 a9 a10 v0 v1 v2 v3 v4 v5 v6 v7 v8 v9 v10 v11 v12 v13 v14 v15 v16 v17 v18 v19 v20 v21) [(0, .ref a0), (1, .long p1), (3, .int p3)] 0 0 0 []
  unfold P_X9_sell at h
  have hk : 0 + mc ≤ (rm_X9_sell mc ms).cells ∧ 0 + ms ≤ (rm_X9_sell mc ms).slots := ⟨Nat.le_of_eq (Nat.zero_add mc), Nat.le_of_eq (Nat.zero_add ms)⟩
  refine xw_aload_n hf (pc := 0) dX9_sell_0 rfl 0 rfl ?_
  refine xw_lload_n hf (pc := 1) dX9_sell_1 rfl 1 rfl ?_
  refine xw_callS hf (pc := 2) (nA := 1) (Xr := W_X9_sell (xg x) a0 a1 a2 a3 a4 a5 a6 a7 a8 a9 a10 v0 v1 v2 v3 v4 v5 v6 v7 v8 v9 v10 v11 v12 v13 v14 v15 v16 v17 v18 v19 v20 v21) (rest := [.ref a0]) (c_X9_isWord (xl x) (xg x) p1 h) gX9_sell_X9_isWord (by rfl) rfl (by decide +kernel) ⟨⟨(Nat.le_of_ble_eq_true rfl), (Nat.le_of_ble_eq_true rfl)⟩, (Nat.le_trans (Nat.le_add_right _ _) hk.1), (Nat.le_trans (Nat.le_add_right _ _) hk.2)⟩ (Nat.le_of_ble_eq_true rfl) (sb_rf _) rfl dX9_sell_2 (fun v X1 hp => ?_)
  obtain ⟨r1, rfl, rfl, h⟩ := hp
  show ww x (W_X9_sell (xg x) a0 a1 a2 a3 a4 a5 a6 a7 a8 a9 a10 v0 v1 v2 v3 v4 v5 v6 v7 v8 v9 v10 v11 v12 v13 v14 v15 v16 v17 v18 v19 v20 v21) [(0, .ref a0), (1, .long p1), (3, .int p3)] 0 0 5 [.int r1, .ref a0]
  refine xw_if_eq hf (pc := 5) dX9_sell_5 (c := r1 = 0) Iff.rfl (tgt := 20) rfl ⟨fun c => ?_, fun c => ?_⟩
  · have h := h.1 c
    refine xw_iconst hf (pc := 20) dX9_sell_20 (v := 0) (by decide) ?_
    refine xw_callV hf (pc := 21) (nA := 1) (Xr := [(a1, .inl (gJ (xg x), 60, .inr (.inl v6))), (a2, .inl (gI (xg x), 27, .inl v7)), (a3, .inl (gI (xg x), 27, .inl v8)), (a4, .inl (gI (xg x), 27, .inl v9)), (v10, .inl (gJ (xg x), v11, .inr (.inl v12))), (v13, .inl (gI (xg x), v14, .inl v15)), (v16, .inl (gZ (xg x), v17, .inl v18)), (a5, .inl (gI (xg x), 12, .inl v19)), (a6, .inl (gI (xg x), 27, .inl v20)), (a7, .inl (gI (xg x), 27, .inl v21))]) (rest := []) (T := TX9) (c_X9_isGood (xl x) (xg x) a0 a1 a2 a3 a8 a4 v10 v13 v16 a5 a6 a7 a9 a10 v0 v1 v2 v3 v4 v5 0 h) gX9_sell_X9_isGood (by rfl) rfl rfl (by decide +kernel) ⟨⟨(Nat.le_of_ble_eq_true rfl), (Nat.le_of_ble_eq_true rfl)⟩, (Nat.le_trans (Nat.le_add_right _ _) hk.1), (Nat.le_trans (Nat.le_add_right _ _) hk.2)⟩ (Nat.le_of_ble_eq_true rfl) rfl rfl (sb_of [0, 1, 2, 3, 4, 5, 6, 7, 8, 9, 10] rfl rfl) rfl dX9_sell_21 (fun v X1 hp => ?_)
    obtain ⟨r2, w3, rfl, rfl, h⟩ := hp
    refine xw_X (sb_of [0, 1, 2, 3, 4, 5, 6, 7, 8, 9, 10] rfl rfl) (show ww x (W_X9_sell (xg x) a0 a1 a2 a3 a4 a5 a6 a7 a8 a9 a10 w3 v1 v2 v3 v4 v5 v6 v7 v8 v9 v10 v11 v12 v13 v14 v15 v16 v17 v18 v19 v20 v21) [(0, .ref a0), (1, .long p1), (3, .int p3)] 0 0 24 [.int r2] from ?_)
    refine xw_if_ne hf (pc := 24) dX9_sell_24 (c := r2 = 0) Iff.rfl (tgt := 29) rfl ⟨fun c => ?_, fun c => ?_⟩
    · have h := h.1 c
      refine xw_iconst hf (pc := 27) dX9_sell_27 (v := 0) (by decide) ?_
      exact xw_iret hf (pc := 28) dX9_sell_28 hr (Nat.le_trans (Nat.le_add_right _ _) hk.1) (Nat.le_trans (Nat.le_add_right _ _) hk.2) ⟨_, _, _, _, _, _, _, _, _, _, _, _, _, _, _, _, _, _, _, rfl, rfl, h⟩
    · have h := h.2 c
      refine xw_aload_n hf (pc := 29) dX9_sell_29 rfl 0 rfl ?_
      refine xw_lload_n hf (pc := 30) dX9_sell_30 rfl 1 rfl ?_
      refine xw_iload_n hf (pc := 31) dX9_sell_31 rfl 2 rfl ?_
      refine xw_callV hf (pc := 32) (nA := 2) (Xr := [(a4, .inl (gI (xg x), 27, .inl v9)), (v10, .inl (gJ (xg x), v11, .inr (.inl v12))), (v13, .inl (gI (xg x), v14, .inl v15)), (v16, .inl (gZ (xg x), v17, .inl v18))]) (rest := []) (T := TX9) (c_X9_refusal (xl x) (xg x) a0 a1 a2 a3 a5 a6 a7 a8 a4 v10 v13 v16 a9 a10 w3 v1 v2 v3 v4 v5 v6 v7 v8 v19 v20 v21 p1 p3 h) gX9_sell_X9_refusal (by rfl) rfl rfl (by decide +kernel) ⟨⟨(Nat.le_of_ble_eq_true rfl), (Nat.le_of_ble_eq_true rfl)⟩, (Nat.le_trans (Nat.le_add_right _ _) hk.1), (Nat.le_trans (Nat.le_add_right _ _) hk.2)⟩ (Nat.le_of_ble_eq_true rfl) rfl rfl (sb_of [0, 1, 2, 3, 8, 9, 10, 4, 5, 6, 7] rfl rfl) rfl dX9_sell_32 (fun v X1 hp => ?_)
      obtain ⟨r4, w5, w6, w7, w8, rfl, rfl, h⟩ := hp
      refine xw_X (sb_of [0, 1, 2, 3, 7, 8, 9, 10, 4, 5, 6] rfl rfl) (show ww x (W_X9_sell (xg x) a0 a1 a2 a3 a4 a5 a6 a7 a8 a9 a10 w3 v1 v2 v3 w5 v5 v6 v7 v8 v9 v10 v11 v12 v13 v14 v15 v16 v17 v18 w6 w7 w8) [(0, .ref a0), (1, .long p1), (3, .int p3)] 0 0 35 [.int r4] from ?_)
      refine xw_if_ne hf (pc := 35) dX9_sell_35 (c := r4 = 0) Iff.rfl (tgt := 46) rfl ⟨fun c => ?_, fun c => ?_⟩
      · have h := h.1 c
        refine xw_aload_n hf (pc := 38) dX9_sell_38 rfl 0 rfl ?_
        refine xw_lload_n hf (pc := 39) dX9_sell_39 rfl 1 rfl ?_
        obtain ⟨mc27, ms28, mc29, ms30, ⟨hb1, hb2⟩, h⟩ := h
        refine xw_callV hf (pc := 40) (nA := 1) (Xr := [(a1, .inl (gJ (xg x), 60, .inr (.inl v6)))]) (rest := []) (T := TX9) (c_X9_sellNow (xl x) (xg x) a0 a2 a3 a4 a5 a6 a7 a1 a8 a9 a10 w3 v1 v2 v3 w5 v5 v7 v8 v9 v10 v11 v12 v13 v14 v15 v16 v17 v18 w6 w7 w8 p1 h) gX9_sell_X9_sellNow (by rfl) rfl rfl (by decide +kernel) ⟨⟨(Nat.le_of_ble_eq_true rfl), (Nat.le_of_ble_eq_true rfl)⟩, (Nat.le_trans (show 0 + mc27 ≤ 0 + mc by omega) hk.1), (Nat.le_trans (show 0 + ms28 ≤ 0 + ms by omega) hk.2)⟩ (Nat.le_of_ble_eq_true rfl) rfl rfl (sb_of [0, 2, 3, 4, 5, 6, 7, 8, 9, 10, 1] rfl rfl) rfl dX9_sell_40 (fun v X1 hp => ?_)
        obtain ⟨r9, w10, w11, w12, w13, w14, w15, w16, w17, w18, w19, w20, w21, w22, w23, w24, w25, w26, rfl, rfl, h⟩ := hp
        have hk : 0 + mc27 + mc29 ≤ (rm_X9_sell mc ms).cells ∧ 0 + ms28 + ms30 ≤ (rm_X9_sell mc ms).slots := ⟨Nat.le_trans (show 0 + mc27 + mc29 ≤ 0 + mc by omega) hk.1, Nat.le_trans (show 0 + ms28 + ms30 ≤ 0 + ms by omega) hk.2⟩
        refine xw_X (sb_of [0, 10, 1, 2, 3, 4, 5, 6, 7, 8, 9] rfl rfl) (show ww x (W_X9_sell (xg x) a0 a1 a2 a3 a4 a5 a6 a7 a8 a9 a10 w3 v1 w10 w11 w12 v5 v6 w13 v8 w14 w15 w16 w17 w18 w19 w20 w21 w22 w23 w24 w25 w26) [(0, .ref a0), (1, .long p1), (3, .int p3)] (0 + mc27) (0 + ms28) 43 [.int r9] from ?_)
        refine xw_goto hf (pc := 43) dX9_sell_43 (tgt := 51) rfl ?_
        exact xw_iret hf (pc := 51) dX9_sell_51 hr (Nat.le_trans (Nat.le_add_right _ _) hk.1) (Nat.le_trans (Nat.le_add_right _ _) hk.2) ⟨_, _, _, _, _, _, _, _, _, _, _, _, _, _, _, _, _, _, _, rfl, rfl, h⟩
      · have h := h.2 c
        refine xw_aload_n hf (pc := 46) dX9_sell_46 rfl 0 rfl ?_
        refine xw_iconst hf (pc := 47) dX9_sell_47 (v := 2) (by decide) ?_
        refine xw_callV hf (pc := 48) (nA := 1) (Xr := [(a1, .inl (gJ (xg x), 60, .inr (.inl v6))), (a2, .inl (gI (xg x), 27, .inl v7)), (a3, .inl (gI (xg x), 27, .inl v8)), (a4, .inl (gI (xg x), 27, .inl v9)), (v10, .inl (gJ (xg x), v11, .inr (.inl v12))), (v13, .inl (gI (xg x), v14, .inl v15)), (v16, .inl (gZ (xg x), v17, .inl v18)), (a5, .inl (gI (xg x), 12, .inl w6)), (a6, .inl (gI (xg x), 27, .inl w7)), (a7, .inl (gI (xg x), 27, .inl w8))]) (rest := []) (T := TX9) (c_X9_fail (xl x) (xg x) a0 a1 a2 a3 a8 a4 v10 v13 v16 a5 a6 a7 a9 a10 w3 v1 v2 v3 w5 v5 2 h) gX9_sell_X9_fail (by rfl) rfl rfl (by decide +kernel) ⟨⟨(Nat.le_of_ble_eq_true rfl), (Nat.le_of_ble_eq_true rfl)⟩, (Nat.le_trans (Nat.le_add_right _ _) hk.1), (Nat.le_trans (Nat.le_add_right _ _) hk.2)⟩ (Nat.le_of_ble_eq_true rfl) rfl rfl (sb_of [0, 1, 2, 3, 4, 5, 6, 7, 8, 9, 10] rfl rfl) rfl dX9_sell_48 (fun v X1 hp => ?_)
        obtain ⟨r31, w32, rfl, rfl, h⟩ := hp
        refine xw_X (sb_of [0, 1, 2, 3, 4, 5, 6, 7, 8, 9, 10] rfl rfl) (show ww x (W_X9_sell (xg x) a0 a1 a2 a3 a4 a5 a6 a7 a8 a9 a10 w32 v1 v2 v3 w5 v5 v6 v7 v8 v9 v10 v11 v12 v13 v14 v15 v16 v17 v18 w6 w7 w8) [(0, .ref a0), (1, .long p1), (3, .int p3)] 0 0 51 [.int r31] from ?_)
        exact xw_iret hf (pc := 51) dX9_sell_51 hr (Nat.le_trans (Nat.le_add_right _ _) hk.1) (Nat.le_trans (Nat.le_add_right _ _) hk.2) ⟨_, _, _, _, _, _, _, _, _, _, _, _, _, _, _, _, _, _, _, rfl, rfl, h⟩
  · have h := h.2 c
    refine xw_aload_n hf (pc := 8) dX9_sell_8 rfl 0 rfl ?_
    refine xw_iload_n hf (pc := 9) dX9_sell_9 rfl 2 rfl ?_
    refine xw_callV hf (pc := 10) (nA := 1) (Xr := [(a0, .inr (9, [.int v0, .ref a1, .int v1, .ref a2, .ref a3, .ref a8, .ref a4, .ref v10, .ref v13, .ref v16, .int v2, .int v3, .ref a5, .int v4, .ref a6, .ref a7, .ref a9, .ref a10, .int v5])), (a1, .inl (gJ (xg x), 60, .inr (.inl v6))), (a2, .inl (gI (xg x), 27, .inl v7)), (a3, .inl (gI (xg x), 27, .inl v8)), (a4, .inl (gI (xg x), 27, .inl v9)), (v10, .inl (gJ (xg x), v11, .inr (.inl v12))), (v13, .inl (gI (xg x), v14, .inl v15)), (v16, .inl (gZ (xg x), v17, .inl v18)), (a5, .inl (gI (xg x), 12, .inl v19)), (a6, .inl (gI (xg x), 27, .inl v20)), (a7, .inl (gI (xg x), 27, .inl v21))]) (rest := [.ref a0]) (T := TX9) (c_X9_isBudget (xl x) (xg x) a0 p3 h) gX9_sell_X9_isBudget (by rfl) rfl rfl (by decide +kernel) ⟨⟨(Nat.le_of_ble_eq_true rfl), (Nat.le_of_ble_eq_true rfl)⟩, (Nat.le_trans (Nat.le_add_right _ _) hk.1), (Nat.le_trans (Nat.le_add_right _ _) hk.2)⟩ (Nat.le_of_ble_eq_true rfl) rfl rfl (sb_rf _) rfl dX9_sell_10 (fun v X1 hp => ?_)
    obtain ⟨r33, rfl, rfl, h⟩ := hp
    show ww x (W_X9_sell (xg x) a0 a1 a2 a3 a4 a5 a6 a7 a8 a9 a10 v0 v1 v2 v3 v4 v5 v6 v7 v8 v9 v10 v11 v12 v13 v14 v15 v16 v17 v18 v19 v20 v21) [(0, .ref a0), (1, .long p1), (3, .int p3)] 0 0 13 [.int r33, .ref a0]
    refine xw_if_eq hf (pc := 13) dX9_sell_13 (c := r33 = 0) Iff.rfl (tgt := 20) rfl ⟨fun c => ?_, fun c => ?_⟩
    · have h := h.1 c
      refine xw_iconst hf (pc := 20) dX9_sell_20 (v := 0) (by decide) ?_
      refine xw_callV hf (pc := 21) (nA := 1) (Xr := [(a1, .inl (gJ (xg x), 60, .inr (.inl v6))), (a2, .inl (gI (xg x), 27, .inl v7)), (a3, .inl (gI (xg x), 27, .inl v8)), (a4, .inl (gI (xg x), 27, .inl v9)), (v10, .inl (gJ (xg x), v11, .inr (.inl v12))), (v13, .inl (gI (xg x), v14, .inl v15)), (v16, .inl (gZ (xg x), v17, .inl v18)), (a5, .inl (gI (xg x), 12, .inl v19)), (a6, .inl (gI (xg x), 27, .inl v20)), (a7, .inl (gI (xg x), 27, .inl v21))]) (rest := []) (T := TX9) (c_X9_isGood (xl x) (xg x) a0 a1 a2 a3 a8 a4 v10 v13 v16 a5 a6 a7 a9 a10 v0 v1 v2 v3 v4 v5 0 h) gX9_sell_X9_isGood (by rfl) rfl rfl (by decide +kernel) ⟨⟨(Nat.le_of_ble_eq_true rfl), (Nat.le_of_ble_eq_true rfl)⟩, (Nat.le_trans (Nat.le_add_right _ _) hk.1), (Nat.le_trans (Nat.le_add_right _ _) hk.2)⟩ (Nat.le_of_ble_eq_true rfl) rfl rfl (sb_of [0, 1, 2, 3, 4, 5, 6, 7, 8, 9, 10] rfl rfl) rfl dX9_sell_21 (fun v X1 hp => ?_)
      obtain ⟨r34, w35, rfl, rfl, h⟩ := hp
      refine xw_X (sb_of [0, 1, 2, 3, 4, 5, 6, 7, 8, 9, 10] rfl rfl) (show ww x (W_X9_sell (xg x) a0 a1 a2 a3 a4 a5 a6 a7 a8 a9 a10 w35 v1 v2 v3 v4 v5 v6 v7 v8 v9 v10 v11 v12 v13 v14 v15 v16 v17 v18 v19 v20 v21) [(0, .ref a0), (1, .long p1), (3, .int p3)] 0 0 24 [.int r34] from ?_)
      refine xw_if_ne hf (pc := 24) dX9_sell_24 (c := r34 = 0) Iff.rfl (tgt := 29) rfl ⟨fun c => ?_, fun c => ?_⟩
      · have h := h.1 c
        refine xw_iconst hf (pc := 27) dX9_sell_27 (v := 0) (by decide) ?_
        exact xw_iret hf (pc := 28) dX9_sell_28 hr (Nat.le_trans (Nat.le_add_right _ _) hk.1) (Nat.le_trans (Nat.le_add_right _ _) hk.2) ⟨_, _, _, _, _, _, _, _, _, _, _, _, _, _, _, _, _, _, _, rfl, rfl, h⟩
      · have h := h.2 c
        refine xw_aload_n hf (pc := 29) dX9_sell_29 rfl 0 rfl ?_
        refine xw_lload_n hf (pc := 30) dX9_sell_30 rfl 1 rfl ?_
        refine xw_iload_n hf (pc := 31) dX9_sell_31 rfl 2 rfl ?_
        refine xw_callV hf (pc := 32) (nA := 2) (Xr := [(a4, .inl (gI (xg x), 27, .inl v9)), (v10, .inl (gJ (xg x), v11, .inr (.inl v12))), (v13, .inl (gI (xg x), v14, .inl v15)), (v16, .inl (gZ (xg x), v17, .inl v18))]) (rest := []) (T := TX9) (c_X9_refusal (xl x) (xg x) a0 a1 a2 a3 a5 a6 a7 a8 a4 v10 v13 v16 a9 a10 w35 v1 v2 v3 v4 v5 v6 v7 v8 v19 v20 v21 p1 p3 h) gX9_sell_X9_refusal (by rfl) rfl rfl (by decide +kernel) ⟨⟨(Nat.le_of_ble_eq_true rfl), (Nat.le_of_ble_eq_true rfl)⟩, (Nat.le_trans (Nat.le_add_right _ _) hk.1), (Nat.le_trans (Nat.le_add_right _ _) hk.2)⟩ (Nat.le_of_ble_eq_true rfl) rfl rfl (sb_of [0, 1, 2, 3, 8, 9, 10, 4, 5, 6, 7] rfl rfl) rfl dX9_sell_32 (fun v X1 hp => ?_)
        obtain ⟨r36, w37, w38, w39, w40, rfl, rfl, h⟩ := hp
        refine xw_X (sb_of [0, 1, 2, 3, 7, 8, 9, 10, 4, 5, 6] rfl rfl) (show ww x (W_X9_sell (xg x) a0 a1 a2 a3 a4 a5 a6 a7 a8 a9 a10 w35 v1 v2 v3 w37 v5 v6 v7 v8 v9 v10 v11 v12 v13 v14 v15 v16 v17 v18 w38 w39 w40) [(0, .ref a0), (1, .long p1), (3, .int p3)] 0 0 35 [.int r36] from ?_)
        refine xw_if_ne hf (pc := 35) dX9_sell_35 (c := r36 = 0) Iff.rfl (tgt := 46) rfl ⟨fun c => ?_, fun c => ?_⟩
        · have h := h.1 c
          refine xw_aload_n hf (pc := 38) dX9_sell_38 rfl 0 rfl ?_
          refine xw_lload_n hf (pc := 39) dX9_sell_39 rfl 1 rfl ?_
          obtain ⟨mc59, ms60, mc61, ms62, ⟨hb1, hb2⟩, h⟩ := h
          refine xw_callV hf (pc := 40) (nA := 1) (Xr := [(a1, .inl (gJ (xg x), 60, .inr (.inl v6)))]) (rest := []) (T := TX9) (c_X9_sellNow (xl x) (xg x) a0 a2 a3 a4 a5 a6 a7 a1 a8 a9 a10 w35 v1 v2 v3 w37 v5 v7 v8 v9 v10 v11 v12 v13 v14 v15 v16 v17 v18 w38 w39 w40 p1 h) gX9_sell_X9_sellNow (by rfl) rfl rfl (by decide +kernel) ⟨⟨(Nat.le_of_ble_eq_true rfl), (Nat.le_of_ble_eq_true rfl)⟩, (Nat.le_trans (show 0 + mc59 ≤ 0 + mc by omega) hk.1), (Nat.le_trans (show 0 + ms60 ≤ 0 + ms by omega) hk.2)⟩ (Nat.le_of_ble_eq_true rfl) rfl rfl (sb_of [0, 2, 3, 4, 5, 6, 7, 8, 9, 10, 1] rfl rfl) rfl dX9_sell_40 (fun v X1 hp => ?_)
          obtain ⟨r41, w42, w43, w44, w45, w46, w47, w48, w49, w50, w51, w52, w53, w54, w55, w56, w57, w58, rfl, rfl, h⟩ := hp
          have hk : 0 + mc59 + mc61 ≤ (rm_X9_sell mc ms).cells ∧ 0 + ms60 + ms62 ≤ (rm_X9_sell mc ms).slots := ⟨Nat.le_trans (show 0 + mc59 + mc61 ≤ 0 + mc by omega) hk.1, Nat.le_trans (show 0 + ms60 + ms62 ≤ 0 + ms by omega) hk.2⟩
          refine xw_X (sb_of [0, 10, 1, 2, 3, 4, 5, 6, 7, 8, 9] rfl rfl) (show ww x (W_X9_sell (xg x) a0 a1 a2 a3 a4 a5 a6 a7 a8 a9 a10 w35 v1 w42 w43 w44 v5 v6 w45 v8 w46 w47 w48 w49 w50 w51 w52 w53 w54 w55 w56 w57 w58) [(0, .ref a0), (1, .long p1), (3, .int p3)] (0 + mc59) (0 + ms60) 43 [.int r41] from ?_)
          refine xw_goto hf (pc := 43) dX9_sell_43 (tgt := 51) rfl ?_
          exact xw_iret hf (pc := 51) dX9_sell_51 hr (Nat.le_trans (Nat.le_add_right _ _) hk.1) (Nat.le_trans (Nat.le_add_right _ _) hk.2) ⟨_, _, _, _, _, _, _, _, _, _, _, _, _, _, _, _, _, _, _, rfl, rfl, h⟩
        · have h := h.2 c
          refine xw_aload_n hf (pc := 46) dX9_sell_46 rfl 0 rfl ?_
          refine xw_iconst hf (pc := 47) dX9_sell_47 (v := 2) (by decide) ?_
          refine xw_callV hf (pc := 48) (nA := 1) (Xr := [(a1, .inl (gJ (xg x), 60, .inr (.inl v6))), (a2, .inl (gI (xg x), 27, .inl v7)), (a3, .inl (gI (xg x), 27, .inl v8)), (a4, .inl (gI (xg x), 27, .inl v9)), (v10, .inl (gJ (xg x), v11, .inr (.inl v12))), (v13, .inl (gI (xg x), v14, .inl v15)), (v16, .inl (gZ (xg x), v17, .inl v18)), (a5, .inl (gI (xg x), 12, .inl w38)), (a6, .inl (gI (xg x), 27, .inl w39)), (a7, .inl (gI (xg x), 27, .inl w40))]) (rest := []) (T := TX9) (c_X9_fail (xl x) (xg x) a0 a1 a2 a3 a8 a4 v10 v13 v16 a5 a6 a7 a9 a10 w35 v1 v2 v3 w37 v5 2 h) gX9_sell_X9_fail (by rfl) rfl rfl (by decide +kernel) ⟨⟨(Nat.le_of_ble_eq_true rfl), (Nat.le_of_ble_eq_true rfl)⟩, (Nat.le_trans (Nat.le_add_right _ _) hk.1), (Nat.le_trans (Nat.le_add_right _ _) hk.2)⟩ (Nat.le_of_ble_eq_true rfl) rfl rfl (sb_of [0, 1, 2, 3, 4, 5, 6, 7, 8, 9, 10] rfl rfl) rfl dX9_sell_48 (fun v X1 hp => ?_)
          obtain ⟨r63, w64, rfl, rfl, h⟩ := hp
          refine xw_X (sb_of [0, 1, 2, 3, 4, 5, 6, 7, 8, 9, 10] rfl rfl) (show ww x (W_X9_sell (xg x) a0 a1 a2 a3 a4 a5 a6 a7 a8 a9 a10 w64 v1 v2 v3 w37 v5 v6 v7 v8 v9 v10 v11 v12 v13 v14 v15 v16 v17 v18 w38 w39 w40) [(0, .ref a0), (1, .long p1), (3, .int p3)] 0 0 51 [.int r63] from ?_)
          exact xw_iret hf (pc := 51) dX9_sell_51 hr (Nat.le_trans (Nat.le_add_right _ _) hk.1) (Nat.le_trans (Nat.le_add_right _ _) hk.2) ⟨_, _, _, _, _, _, _, _, _, _, _, _, _, _, _, _, _, _, _, rfl, rfl, h⟩
    · have h := h.2 c
      refine xw_iconst hf (pc := 16) dX9_sell_16 (v := 1) (by decide) ?_
      refine xw_goto hf (pc := 17) dX9_sell_17 (tgt := 21) rfl ?_
      refine xw_callV hf (pc := 21) (nA := 1) (Xr := [(a1, .inl (gJ (xg x), 60, .inr (.inl v6))), (a2, .inl (gI (xg x), 27, .inl v7)), (a3, .inl (gI (xg x), 27, .inl v8)), (a4, .inl (gI (xg x), 27, .inl v9)), (v10, .inl (gJ (xg x), v11, .inr (.inl v12))), (v13, .inl (gI (xg x), v14, .inl v15)), (v16, .inl (gZ (xg x), v17, .inl v18)), (a5, .inl (gI (xg x), 12, .inl v19)), (a6, .inl (gI (xg x), 27, .inl v20)), (a7, .inl (gI (xg x), 27, .inl v21))]) (rest := []) (T := TX9) (c_X9_isGood (xl x) (xg x) a0 a1 a2 a3 a8 a4 v10 v13 v16 a5 a6 a7 a9 a10 v0 v1 v2 v3 v4 v5 1 h) gX9_sell_X9_isGood (by rfl) rfl rfl (by decide +kernel) ⟨⟨(Nat.le_of_ble_eq_true rfl), (Nat.le_of_ble_eq_true rfl)⟩, (Nat.le_trans (Nat.le_add_right _ _) hk.1), (Nat.le_trans (Nat.le_add_right _ _) hk.2)⟩ (Nat.le_of_ble_eq_true rfl) rfl rfl (sb_of [0, 1, 2, 3, 4, 5, 6, 7, 8, 9, 10] rfl rfl) rfl dX9_sell_21 (fun v X1 hp => ?_)
      obtain ⟨r65, w66, rfl, rfl, h⟩ := hp
      refine xw_X (sb_of [0, 1, 2, 3, 4, 5, 6, 7, 8, 9, 10] rfl rfl) (show ww x (W_X9_sell (xg x) a0 a1 a2 a3 a4 a5 a6 a7 a8 a9 a10 w66 v1 v2 v3 v4 v5 v6 v7 v8 v9 v10 v11 v12 v13 v14 v15 v16 v17 v18 v19 v20 v21) [(0, .ref a0), (1, .long p1), (3, .int p3)] 0 0 24 [.int r65] from ?_)
      refine xw_if_ne hf (pc := 24) dX9_sell_24 (c := r65 = 0) Iff.rfl (tgt := 29) rfl ⟨fun c => ?_, fun c => ?_⟩
      · have h := h.1 c
        refine xw_iconst hf (pc := 27) dX9_sell_27 (v := 0) (by decide) ?_
        exact xw_iret hf (pc := 28) dX9_sell_28 hr (Nat.le_trans (Nat.le_add_right _ _) hk.1) (Nat.le_trans (Nat.le_add_right _ _) hk.2) ⟨_, _, _, _, _, _, _, _, _, _, _, _, _, _, _, _, _, _, _, rfl, rfl, h⟩
      · have h := h.2 c
        refine xw_aload_n hf (pc := 29) dX9_sell_29 rfl 0 rfl ?_
        refine xw_lload_n hf (pc := 30) dX9_sell_30 rfl 1 rfl ?_
        refine xw_iload_n hf (pc := 31) dX9_sell_31 rfl 2 rfl ?_
        refine xw_callV hf (pc := 32) (nA := 2) (Xr := [(a4, .inl (gI (xg x), 27, .inl v9)), (v10, .inl (gJ (xg x), v11, .inr (.inl v12))), (v13, .inl (gI (xg x), v14, .inl v15)), (v16, .inl (gZ (xg x), v17, .inl v18))]) (rest := []) (T := TX9) (c_X9_refusal (xl x) (xg x) a0 a1 a2 a3 a5 a6 a7 a8 a4 v10 v13 v16 a9 a10 w66 v1 v2 v3 v4 v5 v6 v7 v8 v19 v20 v21 p1 p3 h) gX9_sell_X9_refusal (by rfl) rfl rfl (by decide +kernel) ⟨⟨(Nat.le_of_ble_eq_true rfl), (Nat.le_of_ble_eq_true rfl)⟩, (Nat.le_trans (Nat.le_add_right _ _) hk.1), (Nat.le_trans (Nat.le_add_right _ _) hk.2)⟩ (Nat.le_of_ble_eq_true rfl) rfl rfl (sb_of [0, 1, 2, 3, 8, 9, 10, 4, 5, 6, 7] rfl rfl) rfl dX9_sell_32 (fun v X1 hp => ?_)
        obtain ⟨r67, w68, w69, w70, w71, rfl, rfl, h⟩ := hp
        refine xw_X (sb_of [0, 1, 2, 3, 7, 8, 9, 10, 4, 5, 6] rfl rfl) (show ww x (W_X9_sell (xg x) a0 a1 a2 a3 a4 a5 a6 a7 a8 a9 a10 w66 v1 v2 v3 w68 v5 v6 v7 v8 v9 v10 v11 v12 v13 v14 v15 v16 v17 v18 w69 w70 w71) [(0, .ref a0), (1, .long p1), (3, .int p3)] 0 0 35 [.int r67] from ?_)
        refine xw_if_ne hf (pc := 35) dX9_sell_35 (c := r67 = 0) Iff.rfl (tgt := 46) rfl ⟨fun c => ?_, fun c => ?_⟩
        · have h := h.1 c
          refine xw_aload_n hf (pc := 38) dX9_sell_38 rfl 0 rfl ?_
          refine xw_lload_n hf (pc := 39) dX9_sell_39 rfl 1 rfl ?_
          obtain ⟨mc90, ms91, mc92, ms93, ⟨hb1, hb2⟩, h⟩ := h
          refine xw_callV hf (pc := 40) (nA := 1) (Xr := [(a1, .inl (gJ (xg x), 60, .inr (.inl v6)))]) (rest := []) (T := TX9) (c_X9_sellNow (xl x) (xg x) a0 a2 a3 a4 a5 a6 a7 a1 a8 a9 a10 w66 v1 v2 v3 w68 v5 v7 v8 v9 v10 v11 v12 v13 v14 v15 v16 v17 v18 w69 w70 w71 p1 h) gX9_sell_X9_sellNow (by rfl) rfl rfl (by decide +kernel) ⟨⟨(Nat.le_of_ble_eq_true rfl), (Nat.le_of_ble_eq_true rfl)⟩, (Nat.le_trans (show 0 + mc90 ≤ 0 + mc by omega) hk.1), (Nat.le_trans (show 0 + ms91 ≤ 0 + ms by omega) hk.2)⟩ (Nat.le_of_ble_eq_true rfl) rfl rfl (sb_of [0, 2, 3, 4, 5, 6, 7, 8, 9, 10, 1] rfl rfl) rfl dX9_sell_40 (fun v X1 hp => ?_)
          obtain ⟨r72, w73, w74, w75, w76, w77, w78, w79, w80, w81, w82, w83, w84, w85, w86, w87, w88, w89, rfl, rfl, h⟩ := hp
          have hk : 0 + mc90 + mc92 ≤ (rm_X9_sell mc ms).cells ∧ 0 + ms91 + ms93 ≤ (rm_X9_sell mc ms).slots := ⟨Nat.le_trans (show 0 + mc90 + mc92 ≤ 0 + mc by omega) hk.1, Nat.le_trans (show 0 + ms91 + ms93 ≤ 0 + ms by omega) hk.2⟩
          refine xw_X (sb_of [0, 10, 1, 2, 3, 4, 5, 6, 7, 8, 9] rfl rfl) (show ww x (W_X9_sell (xg x) a0 a1 a2 a3 a4 a5 a6 a7 a8 a9 a10 w66 v1 w73 w74 w75 v5 v6 w76 v8 w77 w78 w79 w80 w81 w82 w83 w84 w85 w86 w87 w88 w89) [(0, .ref a0), (1, .long p1), (3, .int p3)] (0 + mc90) (0 + ms91) 43 [.int r72] from ?_)
          refine xw_goto hf (pc := 43) dX9_sell_43 (tgt := 51) rfl ?_
          exact xw_iret hf (pc := 51) dX9_sell_51 hr (Nat.le_trans (Nat.le_add_right _ _) hk.1) (Nat.le_trans (Nat.le_add_right _ _) hk.2) ⟨_, _, _, _, _, _, _, _, _, _, _, _, _, _, _, _, _, _, _, rfl, rfl, h⟩
        · have h := h.2 c
          refine xw_aload_n hf (pc := 46) dX9_sell_46 rfl 0 rfl ?_
          refine xw_iconst hf (pc := 47) dX9_sell_47 (v := 2) (by decide) ?_
          refine xw_callV hf (pc := 48) (nA := 1) (Xr := [(a1, .inl (gJ (xg x), 60, .inr (.inl v6))), (a2, .inl (gI (xg x), 27, .inl v7)), (a3, .inl (gI (xg x), 27, .inl v8)), (a4, .inl (gI (xg x), 27, .inl v9)), (v10, .inl (gJ (xg x), v11, .inr (.inl v12))), (v13, .inl (gI (xg x), v14, .inl v15)), (v16, .inl (gZ (xg x), v17, .inl v18)), (a5, .inl (gI (xg x), 12, .inl w69)), (a6, .inl (gI (xg x), 27, .inl w70)), (a7, .inl (gI (xg x), 27, .inl w71))]) (rest := []) (T := TX9) (c_X9_fail (xl x) (xg x) a0 a1 a2 a3 a8 a4 v10 v13 v16 a5 a6 a7 a9 a10 w66 v1 v2 v3 w68 v5 2 h) gX9_sell_X9_fail (by rfl) rfl rfl (by decide +kernel) ⟨⟨(Nat.le_of_ble_eq_true rfl), (Nat.le_of_ble_eq_true rfl)⟩, (Nat.le_trans (Nat.le_add_right _ _) hk.1), (Nat.le_trans (Nat.le_add_right _ _) hk.2)⟩ (Nat.le_of_ble_eq_true rfl) rfl rfl (sb_of [0, 1, 2, 3, 4, 5, 6, 7, 8, 9, 10] rfl rfl) rfl dX9_sell_48 (fun v X1 hp => ?_)
          obtain ⟨r94, w95, rfl, rfl, h⟩ := hp
          refine xw_X (sb_of [0, 1, 2, 3, 4, 5, 6, 7, 8, 9, 10] rfl rfl) (show ww x (W_X9_sell (xg x) a0 a1 a2 a3 a4 a5 a6 a7 a8 a9 a10 w95 v1 v2 v3 w68 v5 v6 v7 v8 v9 v10 v11 v12 v13 v14 v15 v16 v17 v18 w69 w70 w71) [(0, .ref a0), (1, .long p1), (3, .int p3)] 0 0 51 [.int r94] from ?_)
          exact xw_iret hf (pc := 51) dX9_sell_51 hr (Nat.le_trans (Nat.le_add_right _ _) hk.1) (Nat.le_trans (Nat.le_add_right _ _) hk.2) ⟨_, _, _, _, _, _, _, _, _, _, _, _, _, _, _, _, _, _, _, rfl, rfl, h⟩
abbrev W_X9_spend (g : Gx) (a0 a1 a2 a3 a4 a5 a6 a7 a8 a9 a10 : Nat) (v0 : Int32) (v1 : Int32) (v2 : Int32) (v3 : Int32) (v4 : Int32) (v5 : Int32) (v6 : Nat → Int64) (v7 : Nat → Int32) (v8 : Nat → Int32) (v9 : Nat → Int32) (v10 : Nat) (v11 : Nat) (v12 : Nat → Int64) (v13 : Nat) (v14 : Nat) (v15 : Nat → Int32) (v16 : Nat) (v17 : Nat) (v18 : Nat → Int32) (v19 : Nat → Int32) (v20 : Nat → Int32) (v21 : Nat → Int32) : va_W := [(a0, .inr (9, [.int v0, .ref a1, .int v1, .ref a2, .ref a3, .ref a8, .ref a4, .ref v10, .ref v13, .ref v16, .int v2, .int v3, .ref a5, .int v4, .ref a6, .ref a7, .ref a9, .ref a10, .int v5])), (a1, .inl (gJ g, 60, .inr (.inl v6))), (a2, .inl (gI g, 27, .inl v7)), (a3, .inl (gI g, 27, .inl v8)), (a4, .inl (gI g, 27, .inl v9)), (v10, .inl (gJ g, v11, .inr (.inl v12))), (v13, .inl (gI g, v14, .inl v15)), (v16, .inl (gZ g, v17, .inl v18)), (a5, .inl (gI g, 12, .inl v19)), (a6, .inl (gI g, 27, .inl v20)), (a7, .inl (gI g, 27, .inl v21))]
abbrev rm_X9_spend (mc ms : Nat) : Room := { frames := 6, cells := mc, slots := ms, locals := 138 }
set_option maxHeartbeats 4000000 in
set_option maxRecDepth 100000 in
theorem w_X9_spend_L25 {x : Cx} {mc ms : Nat} (hf : fx x (rm_X9_spend mc ms) RX9 cX9_spend wsX9_spend) (hn : xn x = 6) {k0 n0 rc rs : Nat} (hk : k0 + rc ≤ (rm_X9_spend mc ms).cells ∧ n0 + rs ≤ (rm_X9_spend mc ms).slots) (a0 a1 a2 a3 a4 a5 a6 a7 a8 a9 a10 : Nat) (v0 : Int32) (v1 : Int32) (v5 : Int32) (v6 : Nat → Int64) (v8 : Nat → Int32) {K60 : Nat → Nat → Int32 → Int32 → Int32 → Int32 → (Nat → Int32) → (Nat → Int32) → Nat → Nat → (Nat → Int64) → Nat → Nat → (Nat → Int32) → Nat → Nat → (Nat → Int32) → (Nat → Int32) → (Nat → Int32) → (Nat → Int32) → Prop}
    (n : Nat) (z2 : Int32) (z3 : Int32) (z4 : Int64) (v2 : Int32) (v3 : Int32) (v4 : Int32) (v7 : Nat → Int32) (v9 : Nat → Int32) (v10 : Nat) (v11 : Nat) (v12 : Nat → Int64) (v13 : Nat) (v14 : Nat) (v15 : Nat → Int32) (v16 : Nat) (v17 : Nat) (v18 : Nat → Int32) (v19 : Nat → Int32) (v20 : Nat → Int32) (v21 : Nat → Int32) (h : P_X9_spend_L25 v0 v1 v5 v6 v8 K60 n rc rs z2 z3 z4 v2 v3 v4 v7 v9 v10 v11 v12 v13 v14 v15 v16 v17 v18 v19 v20 v21)
    (hK60 : ∀ (k0 n0 rc rs : Nat), k0 + rc ≤ (rm_X9_spend mc ms).cells ∧ n0 + rs ≤ (rm_X9_spend mc ms).slots → ∀ (y2 : Int32), ∀ (uv2 : Int32), ∀ (uv3 : Int32), ∀ (uv4 : Int32), ∀ (uv7 : Nat → Int32), ∀ (uv9 : Nat → Int32), ∀ (uv10 : Nat), ∀ (uv11 : Nat), ∀ (uv12 : Nat → Int64), ∀ (uv13 : Nat), ∀ (uv14 : Nat), ∀ (uv15 : Nat → Int32), ∀ (uv16 : Nat), ∀ (uv17 : Nat), ∀ (uv18 : Nat → Int32), ∀ (uv19 : Nat → Int32), ∀ (uv20 : Nat → Int32), ∀ (uv21 : Nat → Int32), K60 rc rs y2 uv2 uv3 uv4 uv7 uv9 uv10 uv11 uv12 uv13 uv14 uv15 uv16 uv17 uv18 uv19 uv20 uv21 → ww x (W_X9_spend (xg x) a0 a1 a2 a3 a4 a5 a6 a7 a8 a9 a10 v0 v1 uv2 uv3 uv4 v5 v6 uv7 v8 uv9 uv10 uv11 uv12 uv13 uv14 uv15 uv16 uv17 uv18 uv19 uv20 uv21) [(2, .int y2)] k0 n0 60 []) :
    ww x (W_X9_spend (xg x) a0 a1 a2 a3 a4 a5 a6 a7 a8 a9 a10 v0 v1 v2 v3 v4 v5 v6 v7 v8 v9 v10 v11 v12 v13 v14 v15 v16 v17 v18 v19 v20 v21) [(0, .ref a0), (2, .int z2), (3, .int z3), (4, .long z4)] k0 n0 25 [] := by
  induction n generalizing k0 n0 rc rs z2 z3 z4 v2 v3 v4 v7 v9 v10 v11 v12 v13 v14 v15 v16 v17 v18 v19 v20 v21 with
  | zero => exact h.elim
  | succ n ih =>
    unfold P_X9_spend_L25 at h
    refine xw_lload hf (pc := 25) dX9_spend_25 3 rfl ?_
    refine xw_lconst hf (pc := 27) dX9_spend_27 (v := 0) (by decide) ?_
    refine xw_lcmp hf (pc := 28) dX9_spend_28 ?_
    refine xw_if_eq hf (pc := 29) dX9_spend_29 (c := z4 = 0) (lc_eq _ _) (tgt := 60) rfl ⟨fun c => ?_, fun c => ?_⟩
    · have h := h.1 c
      refine xw_L [1] rfl ?_
      exact hK60 _ _ _ _ hk _ _ _ _ _ _ _ _ _ _ _ _ _ _ _ _ _ _ h
    · have h := h.2 c
      refine xw_iload_n hf (pc := 32) dX9_spend_32 rfl 1 rfl ?_
      refine xw_bipush hf (pc := 33) dX9_spend_33 (v := 20) (by decide) ?_
      refine xw_icmp_ge hf (pc := 35) dX9_spend_35 (tgt := 60) rfl ⟨fun c => ?_, fun c => ?_⟩
      · have h := h.1 c
        refine xw_L [1] rfl ?_
        exact hK60 _ _ _ _ hk _ _ _ _ _ _ _ _ _ _ _ _ _ _ _ _ _ _ h
      · have h := h.2 c
        refine xw_iload_n hf (pc := 38) dX9_spend_38 rfl 2 rfl ?_
        refine xw_aload_n hf (pc := 39) dX9_spend_39 rfl 0 rfl ?_
        refine xw_lload hf (pc := 40) dX9_spend_40 3 rfl ?_
        obtain ⟨mc27, ms28, mc29, ms30, ⟨hb1, hb2⟩, h⟩ := h
        refine xw_callV hf (pc := 42) (nA := 1) (Xr := [(a1, .inl (gJ (xg x), 60, .inr (.inl v6)))]) (rest := [.int z3]) (T := TX9) (c_X9_sellNow (xl x) (xg x) a0 a2 a3 a4 a5 a6 a7 a1 a8 a9 a10 v0 v1 v2 v3 v4 v5 v7 v8 v9 v10 v11 v12 v13 v14 v15 v16 v17 v18 v19 v20 v21 z4 h) gX9_spend_X9_sellNow (by rfl) rfl rfl (by decide +kernel) ⟨⟨(Nat.le_of_ble_eq_true rfl), (Nat.le_of_ble_eq_true rfl)⟩, (Nat.le_trans (show k0 + mc27 ≤ k0 + rc by omega) hk.1), (Nat.le_trans (show n0 + ms28 ≤ n0 + rs by omega) hk.2)⟩ (Nat.le_of_ble_eq_true rfl) rfl rfl (sb_of [0, 2, 3, 4, 5, 6, 7, 8, 9, 10, 1] rfl rfl) rfl dX9_spend_42 (fun v X1 hp => ?_)
        obtain ⟨r9, w10, w11, w12, w13, w14, w15, w16, w17, w18, w19, w20, w21, w22, w23, w24, w25, w26, rfl, rfl, h⟩ := hp
        have hk : k0 + mc27 + mc29 ≤ (rm_X9_spend mc ms).cells ∧ n0 + ms28 + ms30 ≤ (rm_X9_spend mc ms).slots := ⟨Nat.le_trans (show k0 + mc27 + mc29 ≤ k0 + rc by omega) hk.1, Nat.le_trans (show n0 + ms28 + ms30 ≤ n0 + rs by omega) hk.2⟩
        refine xw_X (sb_of [0, 10, 1, 2, 3, 4, 5, 6, 7, 8, 9] rfl rfl) (show ww x (W_X9_spend (xg x) a0 a1 a2 a3 a4 a5 a6 a7 a8 a9 a10 v0 v1 w10 w11 w12 v5 v6 w13 v8 w14 w15 w16 w17 w18 w19 w20 w21 w22 w23 w24 w25 w26) [(0, .ref a0), (2, .int z2), (3, .int z3), (4, .long z4)] (k0 + mc27) (n0 + ms28) 45 [.int r9, .int z3] from ?_)
        refine xw_isub hf (pc := 45) dX9_spend_45 ?_
        refine xw_topi (fun y31 ey31 => ?_)
        have h := h y31 ey31
        refine xw_istore_n hf (pc := 46) dX9_spend_46 rfl [(3, .int y31), (0, .ref a0), (2, .int z2), (4, .long z4)] hn (by decide) rfl ?_
        refine xw_iinc hf (pc := 47) dX9_spend_47 (v := z2 + 1) 2 rfl rfl [(2, .int (z2 + 1)), (3, .int y31), (0, .ref a0), (4, .long z4)] hn (by decide) rfl ?_
        refine xw_aload_n hf (pc := 50) dX9_spend_50 rfl 2 rfl ?_
        refine xw_iload_n hf (pc := 51) dX9_spend_51 rfl 1 rfl ?_
        refine xw_callV hf (pc := 52) (nA := 1) (Xr := [(a4, .inl (gI (xg x), 27, .inl w14)), (w15, .inl (gJ (xg x), w16, .inr (.inl w17))), (w18, .inl (gI (xg x), w19, .inl w20)), (w21, .inl (gZ (xg x), w22, .inl w23))]) (rest := []) (T := TX9) (c_X9_best (xl x) (xg x) a0 a1 a2 a3 a5 a6 a7 a8 a4 w15 w18 w21 a9 a10 v0 v1 w10 w11 w12 v5 v6 w13 v8 w24 w25 w26 y31 h) gX9_spend_X9_best (by rfl) rfl rfl (by decide +kernel) ⟨⟨(Nat.le_of_ble_eq_true rfl), (Nat.le_of_ble_eq_true rfl)⟩, (Nat.le_trans (Nat.le_add_right _ _) hk.1), (Nat.le_trans (Nat.le_add_right _ _) hk.2)⟩ (Nat.le_of_ble_eq_true rfl) rfl rfl (sb_of [0, 1, 2, 3, 8, 9, 10, 4, 5, 6, 7] rfl rfl) rfl dX9_spend_52 (fun v X1 hp => ?_)
        obtain ⟨r32, w33, w34, w35, w36, rfl, rfl, h⟩ := hp
        refine xw_X (sb_of [0, 1, 2, 3, 7, 8, 9, 10, 4, 5, 6] rfl rfl) (show ww x (W_X9_spend (xg x) a0 a1 a2 a3 a4 a5 a6 a7 a8 a9 a10 v0 v1 w10 w11 w33 v5 v6 w13 v8 w14 w15 w16 w17 w18 w19 w20 w21 w22 w23 w34 w35 w36) [(2, .int (z2 + 1)), (3, .int y31), (0, .ref a0), (4, .long z4)] (k0 + mc27) (n0 + ms28) 55 [.long r32] from ?_)
        refine xw_lstore hf (pc := 55) dX9_spend_55 [(4, .long r32), (2, .int (z2 + 1)), (3, .int y31), (0, .ref a0)] hn (by decide) rfl ?_
        refine xw_goto hf (pc := 57) dX9_spend_57 (tgt := 25) rfl ?_
        refine xw_L [3, 1, 2, 0] rfl ?_
        exact ih hk _ _ _ _ _ _ _ _ _ _ _ _ _ _ _ _ _ _ _ _ h
set_option maxHeartbeats 4000000 in
set_option maxRecDepth 100000 in
theorem c_X9_spend (l : Launch) (g : Gx) (a0 a1 a2 a3 a4 a5 a6 a7 a8 a9 a10 : Nat) (v0 : Int32) (v1 : Int32) (v2 : Int32) (v3 : Int32) (v4 : Int32) (v5 : Int32) (v6 : Nat → Int64) (v7 : Nat → Int32) (v8 : Nat → Int32) (v9 : Nat → Int32) (v10 : Nat) (v11 : Nat) (v12 : Nat → Int64) (v13 : Nat) (v14 : Nat) (v15 : Nat → Int32) (v16 : Nat) (v17 : Nat) (v18 : Nat → Int32) (v19 : Nat → Int32) (v20 : Nat → Int32) (v21 : Nat → Int32) (p1 : Int32) {post : Int32 → Int32 → Int32 → Int32 → Int32 → (Nat → Int32) → (Nat → Int32) → Nat → Nat → (Nat → Int64) → Nat → Nat → (Nat → Int32) → Nat → Nat → (Nat → Int32) → (Nat → Int32) → (Nat → Int32) → (Nat → Int32) → Prop} {mc ms : Nat} (h : P_X9_spend post mc ms p1 v0 v1 v2 v3 v4 v5 v6 v7 v8 v9 v10 v11 v12 v13 v14 v15 v16 v17 v18 v19 v20 v21) : cm l g yX9_spend wsX9_spend (rm_X9_spend mc ms) [.ref a0, .int p1] (W_X9_spend g a0 a1 a2 a3 a4 a5 a6 a7 a8 a9 a10 v0 v1 v2 v3 v4 v5 v6 v7 v8 v9 v10 v11 v12 v13 v14 v15 v16 v17 v18 v19 v20 v21) (fun v X1 => ∃ (r : Int32) (uv0 : Int32) (uv2 : Int32) (uv3 : Int32) (uv4 : Int32) (uv7 : Nat → Int32) (uv9 : Nat → Int32) (uv10 : Nat) (uv11 : Nat) (uv12 : Nat → Int64) (uv13 : Nat) (uv14 : Nat) (uv15 : Nat → Int32) (uv16 : Nat) (uv17 : Nat) (uv18 : Nat → Int32) (uv19 : Nat → Int32) (uv20 : Nat → Int32) (uv21 : Nat → Int32), v = some (.int r) ∧ X1 = W_X9_spend g a0 a1 a2 a3 a4 a5 a6 a7 a8 a9 a10 uv0 v1 uv2 uv3 uv4 v5 v6 uv7 v8 uv9 uv10 uv11 uv12 uv13 uv14 uv15 uv16 uv17 uv18 uv19 uv20 uv21 ∧ post r uv0 uv2 uv3 uv4 uv7 uv9 uv10 uv11 uv12 uv13 uv14 uv15 uv16 uv17 uv18 uv19 uv20 uv21) := by
  refine cm_of (cc := cX9_spend) (nL := 6) (ret := (some .int)) (by decide +kernel) rfl (Nat.le_of_ble_eq_true rfl) ?_
  intro x hf hl hg hn hi hr
  subst hl
  subst hg
  show ww x (W_X9_spend (xg x) a0 a1 a2 a3 a4 a5 a6 a7 a8 a9 a10 v0 v1 v2 v3 v4 v5 v6 v7 v8 v9 v10 v11 v12 v13 v14 v15 v16 v17 v18 v19 v20 v21) [(0, .ref a0), (1, .int p1)] 0 0 0 []
  unfold P_X9_spend at h
  have hk : 0 + mc ≤ (rm_X9_spend mc ms).cells ∧ 0 + ms ≤ (rm_X9_spend mc ms).slots := ⟨Nat.le_of_eq (Nat.zero_add mc), Nat.le_of_eq (Nat.zero_add ms)⟩
  refine xw_aload_n hf (pc := 0) dX9_spend_0 rfl 0 rfl ?_
  refine xw_aload_n hf (pc := 1) dX9_spend_1 rfl 0 rfl ?_
  refine xw_iload_n hf (pc := 2) dX9_spend_2 rfl 1 rfl ?_
  refine xw_callV hf (pc := 3) (nA := 1) (Xr := [(a0, .inr (9, [.int v0, .ref a1, .int v1, .ref a2, .ref a3, .ref a8, .ref a4, .ref v10, .ref v13, .ref v16, .int v2, .int v3, .ref a5, .int v4, .ref a6, .ref a7, .ref a9, .ref a10, .int v5])), (a1, .inl (gJ (xg x), 60, .inr (.inl v6))), (a2, .inl (gI (xg x), 27, .inl v7)), (a3, .inl (gI (xg x), 27, .inl v8)), (a4, .inl (gI (xg x), 27, .inl v9)), (v10, .inl (gJ (xg x), v11, .inr (.inl v12))), (v13, .inl (gI (xg x), v14, .inl v15)), (v16, .inl (gZ (xg x), v17, .inl v18)), (a5, .inl (gI (xg x), 12, .inl v19)), (a6, .inl (gI (xg x), 27, .inl v20)), (a7, .inl (gI (xg x), 27, .inl v21))]) (rest := [.ref a0]) (T := TX9) (c_X9_isBudget (xl x) (xg x) a0 p1 h) gX9_spend_X9_isBudget (by rfl) rfl rfl (by decide +kernel) ⟨⟨(Nat.le_of_ble_eq_true rfl), (Nat.le_of_ble_eq_true rfl)⟩, (Nat.le_trans (Nat.le_add_right _ _) hk.1), (Nat.le_trans (Nat.le_add_right _ _) hk.2)⟩ (Nat.le_of_ble_eq_true rfl) rfl rfl (sb_rf _) rfl dX9_spend_3 (fun v X1 hp => ?_)
  obtain ⟨r1, rfl, rfl, h⟩ := hp
  show ww x (W_X9_spend (xg x) a0 a1 a2 a3 a4 a5 a6 a7 a8 a9 a10 v0 v1 v2 v3 v4 v5 v6 v7 v8 v9 v10 v11 v12 v13 v14 v15 v16 v17 v18 v19 v20 v21) [(0, .ref a0), (1, .int p1)] 0 0 6 [.int r1, .ref a0]
  refine xw_callV hf (pc := 6) (nA := 1) (Xr := [(a1, .inl (gJ (xg x), 60, .inr (.inl v6))), (a2, .inl (gI (xg x), 27, .inl v7)), (a3, .inl (gI (xg x), 27, .inl v8)), (a4, .inl (gI (xg x), 27, .inl v9)), (v10, .inl (gJ (xg x), v11, .inr (.inl v12))), (v13, .inl (gI (xg x), v14, .inl v15)), (v16, .inl (gZ (xg x), v17, .inl v18)), (a5, .inl (gI (xg x), 12, .inl v19)), (a6, .inl (gI (xg x), 27, .inl v20)), (a7, .inl (gI (xg x), 27, .inl v21))]) (rest := []) (T := TX9) (c_X9_isGood (xl x) (xg x) a0 a1 a2 a3 a8 a4 v10 v13 v16 a5 a6 a7 a9 a10 v0 v1 v2 v3 v4 v5 r1 h) gX9_spend_X9_isGood (by rfl) rfl rfl (by decide +kernel) ⟨⟨(Nat.le_of_ble_eq_true rfl), (Nat.le_of_ble_eq_true rfl)⟩, (Nat.le_trans (Nat.le_add_right _ _) hk.1), (Nat.le_trans (Nat.le_add_right _ _) hk.2)⟩ (Nat.le_of_ble_eq_true rfl) rfl rfl (sb_of [0, 1, 2, 3, 4, 5, 6, 7, 8, 9, 10] rfl rfl) rfl dX9_spend_6 (fun v X1 hp => ?_)
  obtain ⟨r2, w3, rfl, rfl, h⟩ := hp
  refine xw_X (sb_of [0, 1, 2, 3, 4, 5, 6, 7, 8, 9, 10] rfl rfl) (show ww x (W_X9_spend (xg x) a0 a1 a2 a3 a4 a5 a6 a7 a8 a9 a10 w3 v1 v2 v3 v4 v5 v6 v7 v8 v9 v10 v11 v12 v13 v14 v15 v16 v17 v18 v19 v20 v21) [(0, .ref a0), (1, .int p1)] 0 0 9 [.int r2] from ?_)
  refine xw_if_ne hf (pc := 9) dX9_spend_9 (c := r2 = 0) Iff.rfl (tgt := 14) rfl ⟨fun c => ?_, fun c => ?_⟩
  · have h := h.1 c
    refine xw_iconst hf (pc := 12) dX9_spend_12 (v := 0) (by decide) ?_
    exact xw_iret hf (pc := 13) dX9_spend_13 hr (Nat.le_trans (Nat.le_add_right _ _) hk.1) (Nat.le_trans (Nat.le_add_right _ _) hk.2) ⟨_, _, _, _, _, _, _, _, _, _, _, _, _, _, _, _, _, _, _, rfl, rfl, h⟩
  · have h := h.2 c
    refine xw_iconst hf (pc := 14) dX9_spend_14 (v := 0) (by decide) ?_
    refine xw_istore_n hf (pc := 15) dX9_spend_15 rfl [(2, .int 0), (0, .ref a0), (1, .int p1)] hn (by decide) rfl ?_
    refine xw_iload_n hf (pc := 16) dX9_spend_16 rfl 2 rfl ?_
    refine xw_istore_n hf (pc := 17) dX9_spend_17 rfl [(3, .int p1), (2, .int 0), (0, .ref a0), (1, .int p1)] hn (by decide) rfl ?_
    refine xw_aload_n hf (pc := 18) dX9_spend_18 rfl 2 rfl ?_
    refine xw_iload_n hf (pc := 19) dX9_spend_19 rfl 0 rfl ?_
    refine xw_callV hf (pc := 20) (nA := 1) (Xr := [(a4, .inl (gI (xg x), 27, .inl v9)), (v10, .inl (gJ (xg x), v11, .inr (.inl v12))), (v13, .inl (gI (xg x), v14, .inl v15)), (v16, .inl (gZ (xg x), v17, .inl v18))]) (rest := []) (T := TX9) (c_X9_best (xl x) (xg x) a0 a1 a2 a3 a5 a6 a7 a8 a4 v10 v13 v16 a9 a10 w3 v1 v2 v3 v4 v5 v6 v7 v8 v19 v20 v21 p1 h) gX9_spend_X9_best (by rfl) rfl rfl (by decide +kernel) ⟨⟨(Nat.le_of_ble_eq_true rfl), (Nat.le_of_ble_eq_true rfl)⟩, (Nat.le_trans (Nat.le_add_right _ _) hk.1), (Nat.le_trans (Nat.le_add_right _ _) hk.2)⟩ (Nat.le_of_ble_eq_true rfl) rfl rfl (sb_of [0, 1, 2, 3, 8, 9, 10, 4, 5, 6, 7] rfl rfl) rfl dX9_spend_20 (fun v X1 hp => ?_)
    obtain ⟨r4, w5, w6, w7, w8, rfl, rfl, h⟩ := hp
    refine xw_X (sb_of [0, 1, 2, 3, 7, 8, 9, 10, 4, 5, 6] rfl rfl) (show ww x (W_X9_spend (xg x) a0 a1 a2 a3 a4 a5 a6 a7 a8 a9 a10 w3 v1 v2 v3 w5 v5 v6 v7 v8 v9 v10 v11 v12 v13 v14 v15 v16 v17 v18 w6 w7 w8) [(3, .int p1), (2, .int 0), (0, .ref a0), (1, .int p1)] 0 0 23 [.long r4] from ?_)
    refine xw_lstore hf (pc := 23) dX9_spend_23 [(4, .long r4), (3, .int p1), (2, .int 0), (0, .ref a0), (1, .int p1)] hn (by decide) rfl ?_
    refine xw_L [3, 2, 1, 0] rfl ?_
    refine w_X9_spend_L25 hf hn hk a0 a1 a2 a3 a4 a5 a6 a7 a8 a9 a10 w3 v1 v5 v6 v8 FU _ _ _ _ _ _ _ _ _ _ _ _ _ _ _ _ _ _ _ _ h (fun k55 n56 mc57 ms58 hk x37 w38 w39 w40 w41 w42 w43 w44 w45 w46 w47 w48 w49 w50 w51 w52 w53 w54 h => ?_)
    refine xw_iload_n hf (pc := 60) dX9_spend_60 rfl 0 rfl ?_
    exact xw_iret hf (pc := 61) dX9_spend_61 hr (Nat.le_trans (Nat.le_add_right _ _) hk.1) (Nat.le_trans (Nat.le_add_right _ _) hk.2) ⟨_, _, _, _, _, _, _, _, _, _, _, _, _, _, _, _, _, _, _, rfl, rfl, h⟩
abbrev W_X9_cutToOrder (g : Gx) (a0 a1 a2 a3 a4 a5 a6 a7 a8 a9 a10 : Nat) (v0 : Int32) (v1 : Int32) (v2 : Int32) (v3 : Int32) (v4 : Int32) (v5 : Int32) (v6 : Nat → Int64) (v7 : Nat → Int32) (v8 : Nat → Int32) (v9 : Nat → Int32) (v10 : Nat) (v11 : Nat) (v12 : Nat → Int64) (v13 : Nat) (v14 : Nat) (v15 : Nat → Int32) (v16 : Nat) (v17 : Nat) (v18 : Nat → Int32) (v19 : Nat → Int32) (v20 : Nat → Int32) (v21 : Nat → Int32) (v22 : Nat → Int32) (v23 : Nat → Int32) : va_W := [(a0, .inr (9, [.int v0, .ref a1, .int v1, .ref a2, .ref a10, .ref a3, .ref a4, .ref v10, .ref v13, .ref v16, .int v2, .int v3, .ref a5, .int v4, .ref a6, .ref a7, .ref a8, .ref a9, .int v5])), (a1, .inl (gJ g, 60, .inr (.inl v6))), (a2, .inl (gI g, 27, .inl v7)), (a3, .inl (gI g, 27, .inl v8)), (a4, .inl (gI g, 27, .inl v9)), (v10, .inl (gJ g, v11, .inr (.inl v12))), (v13, .inl (gI g, v14, .inl v15)), (v16, .inl (gZ g, v17, .inl v18)), (a5, .inl (gI g, 12, .inl v19)), (a6, .inl (gI g, 27, .inl v20)), (a7, .inl (gI g, 27, .inl v21)), (a8, .inl (gI g, 60, .inl v22)), (a9, .inl (gI g, 3, .inl v23))]
abbrev rm_X9_cutToOrder (mc ms : Nat) : Room := { frames := 4, cells := mc, slots := ms, locals := 102 }
theorem mw_X9_cutToOrder_0 : (Cond.fieldLink RX9 13 "AnagramButcherModel" "stock" "[I" : Cond) ∈ wsX9_cutToOrder := (List.mem_cons_of_mem _ (List.mem_append_left _ (List.mem_append_left _ (List.mem_of_getElem? (l := wsX9_cutToOrder_r1) (i := 0) rfl))))
theorem mw_X9_cutToOrder_1 : (Cond.fieldLink RX9 23 "AnagramButcherModel" "sold" "[I" : Cond) ∈ wsX9_cutToOrder := (List.mem_cons_of_mem _ (List.mem_append_left _ (List.mem_append_left _ (List.mem_of_getElem? (l := wsX9_cutToOrder_r1) (i := 1) rfl))))
theorem mw_X9_cutToOrder_2 : (Cond.fieldLink RX9 39 "AnagramButcherModel" "counts" "[I" : Cond) ∈ wsX9_cutToOrder := (List.mem_cons_of_mem _ (List.mem_append_left _ (List.mem_append_left _ (List.mem_of_getElem? (l := wsX9_cutToOrder_r1) (i := 2) rfl))))
theorem mw_X9_cutToOrder_3 : (Cond.fieldLink RX9 20 "AnagramButcherModel" "came" "[I" : Cond) ∈ wsX9_cutToOrder := (List.mem_cons_of_mem _ (List.mem_append_left _ (List.mem_append_left _ (List.mem_of_getElem? (l := wsX9_cutToOrder_r1) (i := 3) rfl))))
theorem mw_X9_cutToOrder_4 : (Cond.fieldLink RX9 190 "AnagramButcherModel" "planned" "I" : Cond) ∈ wsX9_cutToOrder := (List.mem_cons_of_mem _ (List.mem_append_left _ (List.mem_append_left _ (List.mem_of_getElem? (l := wsX9_cutToOrder_r1) (i := 4) rfl))))
theorem mw_X9_cutToOrder_5 : (Cond.fieldLink RX9 7 "AnagramButcherModel" "words" "[J" : Cond) ∈ wsX9_cutToOrder := (List.mem_cons_of_mem _ (List.mem_append_left _ (List.mem_append_left _ (List.mem_of_getElem? (l := wsX9_cutToOrder_r1) (i := 5) rfl))))
theorem mw_X9_cutToOrder_6 : (Cond.fieldLink RX9 48 "AnagramButcherModel" "plan" "[I" : Cond) ∈ wsX9_cutToOrder := (List.mem_cons_of_mem _ (List.mem_append_left _ (List.mem_append_left _ (List.mem_of_getElem? (l := wsX9_cutToOrder_r1) (i := 6) rfl))))
theorem mi_X9_cutToOrder_X9 : ∀ w ∈ wsX90, w ∈ wsX9_cutToOrder := fun _ h => (List.mem_cons_of_mem _ (List.mem_append_right _ h))
set_option maxHeartbeats 4000000 in
set_option maxRecDepth 100000 in
theorem w_X9_cutToOrder_L22 {x : Cx} {mc ms : Nat} (hf : fx x (rm_X9_cutToOrder mc ms) RX9 cX9_cutToOrder wsX9_cutToOrder) (hn : xn x = 6) {k0 n0 : Nat} (hk : k0 ≤ (rm_X9_cutToOrder mc ms).cells ∧ n0 ≤ (rm_X9_cutToOrder mc ms).slots) (a0 a1 a2 a3 a4 a5 a6 a7 a8 a9 a10 : Nat) (z4 : Int32) (v0 : Int32) (v1 : Int32) (v2 : Int32) (v3 : Int32) (v4 : Int32) (v5 : Int32) (v6 : Nat → Int64) (v7 : Nat → Int32) (v20 : Nat → Int32) (v23 : Nat → Int32) (v8 : Nat → Int32) (v9 : Nat → Int32) (v10 : Nat) (v11 : Nat) (v12 : Nat → Int64) (v13 : Nat) (v14 : Nat) (v15 : Nat → Int32) (v16 : Nat) (v17 : Nat) (v18 : Nat → Int32) (v19 : Nat → Int32) (v21 : Nat → Int32) (v22 : Nat → Int32) {K49 : Prop} {K61 : Prop}
    (n : Nat) (z5 : Int32) (h : P_X9_cutToOrder_L22 z4 v0 v1 v2 v3 v4 v5 v6 v7 v20 v23 K49 K61 n z5)
    (hK49 : K49 → ww x (W_X9_cutToOrder (xg x) a0 a1 a2 a3 a4 a5 a6 a7 a8 a9 a10 v0 v1 v2 v3 v4 v5 v6 v7 v8 v9 v10 v11 v12 v13 v14 v15 v16 v17 v18 v19 v20 v21 v22 v23) [(0, .ref a0)] k0 n0 49 [])
    (hK61 : K61 → ww x (W_X9_cutToOrder (xg x) a0 a1 a2 a3 a4 a5 a6 a7 a8 a9 a10 v0 v1 v2 v3 v4 v5 v6 v7 v8 v9 v10 v11 v12 v13 v14 v15 v16 v17 v18 v19 v20 v21 v22 v23) [(0, .ref a0), (4, .int z4)] k0 n0 61 []) :
    ww x (W_X9_cutToOrder (xg x) a0 a1 a2 a3 a4 a5 a6 a7 a8 a9 a10 v0 v1 v2 v3 v4 v5 v6 v7 v8 v9 v10 v11 v12 v13 v14 v15 v16 v17 v18 v19 v20 v21 v22 v23) [(0, .ref a0), (4, .int z4), (5, .int z5)] k0 n0 22 [] := by
  induction n generalizing z5 with
  | zero => exact h.elim
  | succ n ih =>
    unfold P_X9_cutToOrder_L22 at h
    refine xw_iload hf (pc := 22) dX9_cutToOrder_22 2 rfl ?_
    refine xw_bipush hf (pc := 24) dX9_cutToOrder_24 (v := 26) (by decide) ?_
    refine xw_icmp_gt hf (pc := 26) dX9_cutToOrder_26 (tgt := 61) rfl ⟨fun c => ?_, fun c => ?_⟩
    · have h := h.1 c
      refine xw_L [0, 1] rfl ?_
      exact hK61 h
    · have h := h.2 c
      refine xw_aload_n hf (pc := 29) dX9_cutToOrder_29 rfl 0 rfl ?_
      refine xw_get hf (pc := 30) dX9_cutToOrder_30 (T := TX9) mi_X9_cutToOrder_X9 rfl 0 rfl 3 (by decide) rfl mw_X9_cutToOrder_0 rfl ?_
      refine xw_iload hf (pc := 33) dX9_cutToOrder_33 2 rfl ?_
      refine xw_iald hf (pc := 35) dX9_cutToOrder_35 2 rfl h.1 ?_
      have h := h.2
      refine xw_aload_n hf (pc := 36) dX9_cutToOrder_36 rfl 0 rfl ?_
      refine xw_iload hf (pc := 37) dX9_cutToOrder_37 2 rfl ?_
      refine xw_callV hf (pc := 39) (nA := 1) (Xr := [(a2, .inl (gI (xg x), 27, .inl v7)), (a3, .inl (gI (xg x), 27, .inl v8)), (a4, .inl (gI (xg x), 27, .inl v9)), (v10, .inl (gJ (xg x), v11, .inr (.inl v12))), (v13, .inl (gI (xg x), v14, .inl v15)), (v16, .inl (gZ (xg x), v17, .inl v18)), (a5, .inl (gI (xg x), 12, .inl v19)), (a7, .inl (gI (xg x), 27, .inl v21)), (a8, .inl (gI (xg x), 60, .inl v22))]) (rest := [.int (v7 z5.toNatClampNeg)]) (T := TX9) (c_X9_leftOf (xl x) (xg x) a0 a1 a6 a9 a2 a10 a3 a4 v10 v13 v16 a5 a7 a8 v0 v1 v2 v3 v4 v5 v6 v20 v23 z5 h) gX9_cutToOrder_X9_leftOf (by rfl) rfl rfl (by decide +kernel) ⟨⟨(Nat.le_of_ble_eq_true rfl), (Nat.le_of_ble_eq_true rfl)⟩, hk.1, hk.2⟩ (Nat.le_of_ble_eq_true rfl) rfl rfl (sb_of [0, 1, 9, 12, 2, 3, 4, 5, 6, 7, 8, 10, 11] rfl rfl) rfl dX9_cutToOrder_39 (fun v X1 hp => ?_)
      obtain ⟨r11, rfl, rfl, h⟩ := hp
      refine xw_X (sb_of [0, 1, 4, 5, 6, 7, 8, 9, 10, 2, 11, 12, 3] rfl rfl) (show ww x (W_X9_cutToOrder (xg x) a0 a1 a2 a3 a4 a5 a6 a7 a8 a9 a10 v0 v1 v2 v3 v4 v5 v6 v7 v8 v9 v10 v11 v12 v13 v14 v15 v16 v17 v18 v19 v20 v21 v22 v23) [(0, .ref a0), (4, .int z4), (5, .int z5)] k0 n0 42 [.int r11, .int (v7 z5.toNatClampNeg)] from ?_)
      refine xw_iadd hf (pc := 42) dX9_cutToOrder_42 ?_
      refine xw_sipush hf (pc := 43) dX9_cutToOrder_43 (v := 999) (by decide) ?_
      refine xw_icmp_le hf (pc := 46) dX9_cutToOrder_46 (tgt := 55) rfl ⟨fun c => ?_, fun c => ?_⟩
      · have h := h.1 c
        refine xw_iinc hf (pc := 55) dX9_cutToOrder_55 (v := z5 + 1) 2 rfl rfl [(5, .int (z5 + 1)), (0, .ref a0), (4, .int z4)] hn (by decide) rfl ?_
        refine xw_goto hf (pc := 58) dX9_cutToOrder_58 (tgt := 22) rfl ?_
        refine xw_L [1, 2, 0] rfl ?_
        exact ih _ h
      · have h := h.2 c
        refine xw_L [0] rfl ?_
        exact hK49 h
set_option maxHeartbeats 4000000 in
set_option maxRecDepth 100000 in
theorem w_X9_cutToOrder_L64 {x : Cx} {mc ms : Nat} (hf : fx x (rm_X9_cutToOrder mc ms) RX9 cX9_cutToOrder wsX9_cutToOrder) (hn : xn x = 6) {k0 n0 : Nat} (hk : k0 ≤ (rm_X9_cutToOrder mc ms).cells ∧ n0 ≤ (rm_X9_cutToOrder mc ms).slots) (a0 a1 a2 a3 a4 a5 a6 a7 a8 a9 a10 : Nat) (z4 : Int32) (v0 : Int32) (v1 : Int32) (v2 : Int32) (v3 : Int32) (v4 : Int32) (v5 : Int32) (v6 : Nat → Int64) (v20 : Nat → Int32) (v23 : Nat → Int32) (v10 : Nat) (v11 : Nat) (v12 : Nat → Int64) (v13 : Nat) (v14 : Nat) (v15 : Nat → Int32) (v16 : Nat) (v17 : Nat) (v18 : Nat → Int32) (v19 : Nat → Int32) (v21 : Nat → Int32) (v22 : Nat → Int32) {K134 : (Nat → Int32) → (Nat → Int32) → (Nat → Int32) → Prop}
    (n : Nat) (z5 : Int32) (v7 : Nat → Int32) (v8 : Nat → Int32) (v9 : Nat → Int32) (h : P_X9_cutToOrder_L64 z4 v0 v1 v2 v3 v4 v5 v6 v20 v23 K134 n z5 v7 v8 v9)
    (hK134 : ∀ (uv7 : Nat → Int32), ∀ (uv8 : Nat → Int32), ∀ (uv9 : Nat → Int32), K134 uv7 uv8 uv9 → ww x (W_X9_cutToOrder (xg x) a0 a1 a2 a3 a4 a5 a6 a7 a8 a9 a10 v0 v1 v2 v3 v4 v5 v6 uv7 uv8 uv9 v10 v11 v12 v13 v14 v15 v16 v17 v18 v19 v20 v21 v22 v23) [(0, .ref a0), (4, .int z4)] k0 n0 134 []) :
    ww x (W_X9_cutToOrder (xg x) a0 a1 a2 a3 a4 a5 a6 a7 a8 a9 a10 v0 v1 v2 v3 v4 v5 v6 v7 v8 v9 v10 v11 v12 v13 v14 v15 v16 v17 v18 v19 v20 v21 v22 v23) [(0, .ref a0), (4, .int z4), (5, .int z5)] k0 n0 64 [] := by
  induction n generalizing z5 v7 v8 v9 with
  | zero => exact h.elim
  | succ n ih =>
    unfold P_X9_cutToOrder_L64 at h
    refine xw_iload hf (pc := 64) dX9_cutToOrder_64 2 rfl ?_
    refine xw_bipush hf (pc := 66) dX9_cutToOrder_66 (v := 26) (by decide) ?_
    refine xw_icmp_gt hf (pc := 68) dX9_cutToOrder_68 (tgt := 134) rfl ⟨fun c => ?_, fun c => ?_⟩
    · have h := h.1 c
      refine xw_L [0, 1] rfl ?_
      exact hK134 _ _ _ h
    · have h := h.2 c
      refine xw_aload_n hf (pc := 71) dX9_cutToOrder_71 rfl 0 rfl ?_
      refine xw_get hf (pc := 72) dX9_cutToOrder_72 (T := TX9) mi_X9_cutToOrder_X9 rfl 0 rfl 3 (by decide) rfl mw_X9_cutToOrder_0 rfl ?_
      refine xw_iload hf (pc := 75) dX9_cutToOrder_75 2 rfl ?_
      refine xw_dup2 hf (pc := 77) dX9_cutToOrder_77 rfl rfl ?_
      refine xw_iald hf (pc := 78) dX9_cutToOrder_78 2 rfl h.1 ?_
      have h := h.2
      refine xw_aload_n hf (pc := 79) dX9_cutToOrder_79 rfl 0 rfl ?_
      refine xw_iload hf (pc := 80) dX9_cutToOrder_80 2 rfl ?_
      refine xw_callV hf (pc := 82) (nA := 1) (Xr := [(a2, .inl (gI (xg x), 27, .inl v7)), (a3, .inl (gI (xg x), 27, .inl v8)), (a4, .inl (gI (xg x), 27, .inl v9)), (v10, .inl (gJ (xg x), v11, .inr (.inl v12))), (v13, .inl (gI (xg x), v14, .inl v15)), (v16, .inl (gZ (xg x), v17, .inl v18)), (a5, .inl (gI (xg x), 12, .inl v19)), (a7, .inl (gI (xg x), 27, .inl v21)), (a8, .inl (gI (xg x), 60, .inl v22))]) (rest := [.int (v7 z5.toNatClampNeg), .int z5, .ref a2]) (T := TX9) (c_X9_leftOf (xl x) (xg x) a0 a1 a6 a9 a2 a10 a3 a4 v10 v13 v16 a5 a7 a8 v0 v1 v2 v3 v4 v5 v6 v20 v23 z5 h) gX9_cutToOrder_X9_leftOf (by rfl) rfl rfl (by decide +kernel) ⟨⟨(Nat.le_of_ble_eq_true rfl), (Nat.le_of_ble_eq_true rfl)⟩, hk.1, hk.2⟩ (Nat.le_of_ble_eq_true rfl) rfl rfl (sb_of [0, 1, 9, 12, 2, 3, 4, 5, 6, 7, 8, 10, 11] rfl rfl) rfl dX9_cutToOrder_82 (fun v X1 hp => ?_)
      obtain ⟨r14, rfl, rfl, h⟩ := hp
      refine xw_X (sb_of [0, 1, 4, 5, 6, 7, 8, 9, 10, 2, 11, 12, 3] rfl rfl) (show ww x (W_X9_cutToOrder (xg x) a0 a1 a2 a3 a4 a5 a6 a7 a8 a9 a10 v0 v1 v2 v3 v4 v5 v6 v7 v8 v9 v10 v11 v12 v13 v14 v15 v16 v17 v18 v19 v20 v21 v22 v23) [(0, .ref a0), (4, .int z4), (5, .int z5)] k0 n0 85 [.int r14, .int (v7 z5.toNatClampNeg), .int z5, .ref a2] from ?_)
      refine xw_iadd hf (pc := 85) dX9_cutToOrder_85 ?_
      refine xw_iast hf (pc := 86) dX9_cutToOrder_86 2 rfl h.1 (W_X9_cutToOrder (xg x) a0 a1 a2 a3 a4 a5 a6 a7 a8 a9 a10 v0 v1 v2 v3 v4 v5 v6 (upd v7 z5.toNatClampNeg ((v7 z5.toNatClampNeg) + r14)) v8 v9 v10 v11 v12 v13 v14 v15 v16 v17 v18 v19 v20 v21 v22 v23) rfl ?_
      have h := h.2
      refine xw_aload_n hf (pc := 87) dX9_cutToOrder_87 rfl 0 rfl ?_
      refine xw_get hf (pc := 88) dX9_cutToOrder_88 (T := TX9) mi_X9_cutToOrder_X9 rfl 0 rfl 6 (by decide) rfl mw_X9_cutToOrder_1 rfl ?_
      refine xw_iload hf (pc := 91) dX9_cutToOrder_91 2 rfl ?_
      refine xw_dup2 hf (pc := 93) dX9_cutToOrder_93 rfl rfl ?_
      refine xw_iald hf (pc := 94) dX9_cutToOrder_94 4 rfl h.1 ?_
      have h := h.2
      refine xw_aload_n hf (pc := 95) dX9_cutToOrder_95 rfl 0 rfl ?_
      refine xw_get hf (pc := 96) dX9_cutToOrder_96 (T := TX9) mi_X9_cutToOrder_X9 rfl 0 rfl 14 (by decide) rfl mw_X9_cutToOrder_2 rfl ?_
      refine xw_iload hf (pc := 99) dX9_cutToOrder_99 2 rfl ?_
      refine xw_iald hf (pc := 101) dX9_cutToOrder_101 9 rfl h.1 ?_
      have h := h.2
      refine xw_aload_n hf (pc := 102) dX9_cutToOrder_102 rfl 0 rfl ?_
      refine xw_iload hf (pc := 103) dX9_cutToOrder_103 2 rfl ?_
      refine xw_callV hf (pc := 105) (nA := 1) (Xr := [(a2, .inl (gI (xg x), 27, .inl (upd v7 z5.toNatClampNeg ((v7 z5.toNatClampNeg) + r14)))), (a3, .inl (gI (xg x), 27, .inl v8)), (a4, .inl (gI (xg x), 27, .inl v9)), (v10, .inl (gJ (xg x), v11, .inr (.inl v12))), (v13, .inl (gI (xg x), v14, .inl v15)), (v16, .inl (gZ (xg x), v17, .inl v18)), (a5, .inl (gI (xg x), 12, .inl v19)), (a7, .inl (gI (xg x), 27, .inl v21)), (a8, .inl (gI (xg x), 60, .inl v22))]) (rest := [.int (v20 z5.toNatClampNeg), .int (v9 z5.toNatClampNeg), .int z5, .ref a4]) (T := TX9) (c_X9_leftOf (xl x) (xg x) a0 a1 a6 a9 a2 a10 a3 a4 v10 v13 v16 a5 a7 a8 v0 v1 v2 v3 v4 v5 v6 v20 v23 z5 h) gX9_cutToOrder_X9_leftOf (by rfl) rfl rfl (by decide +kernel) ⟨⟨(Nat.le_of_ble_eq_true rfl), (Nat.le_of_ble_eq_true rfl)⟩, hk.1, hk.2⟩ (Nat.le_of_ble_eq_true rfl) rfl rfl (sb_of [0, 1, 9, 12, 2, 3, 4, 5, 6, 7, 8, 10, 11] rfl rfl) rfl dX9_cutToOrder_105 (fun v X1 hp => ?_)
      obtain ⟨r15, rfl, rfl, h⟩ := hp
      refine xw_X (sb_of [0, 1, 4, 5, 6, 7, 8, 9, 10, 2, 11, 12, 3] rfl rfl) (show ww x (W_X9_cutToOrder (xg x) a0 a1 a2 a3 a4 a5 a6 a7 a8 a9 a10 v0 v1 v2 v3 v4 v5 v6 (upd v7 z5.toNatClampNeg ((v7 z5.toNatClampNeg) + r14)) v8 v9 v10 v11 v12 v13 v14 v15 v16 v17 v18 v19 v20 v21 v22 v23) [(0, .ref a0), (4, .int z4), (5, .int z5)] k0 n0 108 [.int r15, .int (v20 z5.toNatClampNeg), .int (v9 z5.toNatClampNeg), .int z5, .ref a4] from ?_)
      refine xw_isub hf (pc := 108) dX9_cutToOrder_108 ?_
      refine xw_iadd hf (pc := 109) dX9_cutToOrder_109 ?_
      refine xw_iast hf (pc := 110) dX9_cutToOrder_110 4 rfl h.1 (W_X9_cutToOrder (xg x) a0 a1 a2 a3 a4 a5 a6 a7 a8 a9 a10 v0 v1 v2 v3 v4 v5 v6 (upd v7 z5.toNatClampNeg ((v7 z5.toNatClampNeg) + r14)) v8 (upd v9 z5.toNatClampNeg ((v9 z5.toNatClampNeg) + ((v20 z5.toNatClampNeg) - r15))) v10 v11 v12 v13 v14 v15 v16 v17 v18 v19 v20 v21 v22 v23) rfl ?_
      have h := h.2
      refine xw_aload_n hf (pc := 111) dX9_cutToOrder_111 rfl 0 rfl ?_
      refine xw_get hf (pc := 112) dX9_cutToOrder_112 (T := TX9) mi_X9_cutToOrder_X9 rfl 0 rfl 5 (by decide) rfl mw_X9_cutToOrder_3 rfl ?_
      refine xw_iload hf (pc := 115) dX9_cutToOrder_115 2 rfl ?_
      refine xw_dup2 hf (pc := 117) dX9_cutToOrder_117 rfl rfl ?_
      refine xw_iald hf (pc := 118) dX9_cutToOrder_118 3 rfl h.1 ?_
      have h := h.2
      refine xw_aload_n hf (pc := 119) dX9_cutToOrder_119 rfl 0 rfl ?_
      refine xw_get hf (pc := 120) dX9_cutToOrder_120 (T := TX9) mi_X9_cutToOrder_X9 rfl 0 rfl 14 (by decide) rfl mw_X9_cutToOrder_2 rfl ?_
      refine xw_iload hf (pc := 123) dX9_cutToOrder_123 2 rfl ?_
      refine xw_iald hf (pc := 125) dX9_cutToOrder_125 9 rfl h.1 ?_
      have h := h.2
      refine xw_iadd hf (pc := 126) dX9_cutToOrder_126 ?_
      refine xw_iast hf (pc := 127) dX9_cutToOrder_127 3 rfl h.1 (W_X9_cutToOrder (xg x) a0 a1 a2 a3 a4 a5 a6 a7 a8 a9 a10 v0 v1 v2 v3 v4 v5 v6 (upd v7 z5.toNatClampNeg ((v7 z5.toNatClampNeg) + r14)) (upd v8 z5.toNatClampNeg ((v8 z5.toNatClampNeg) + (v20 z5.toNatClampNeg))) (upd v9 z5.toNatClampNeg ((v9 z5.toNatClampNeg) + ((v20 z5.toNatClampNeg) - r15))) v10 v11 v12 v13 v14 v15 v16 v17 v18 v19 v20 v21 v22 v23) rfl ?_
      have h := h.2
      refine xw_iinc hf (pc := 128) dX9_cutToOrder_128 (v := z5 + 1) 2 rfl rfl [(5, .int (z5 + 1)), (0, .ref a0), (4, .int z4)] hn (by decide) rfl ?_
      refine xw_goto hf (pc := 131) dX9_cutToOrder_131 (tgt := 64) rfl ?_
      refine xw_L [1, 2, 0] rfl ?_
      exact ih _ _ _ _ h
set_option maxHeartbeats 4000000 in
set_option maxRecDepth 100000 in
theorem w_X9_cutToOrder_L137 {x : Cx} {mc ms : Nat} (hf : fx x (rm_X9_cutToOrder mc ms) RX9 cX9_cutToOrder wsX9_cutToOrder) (hn : xn x = 6) {k0 n0 rc rs : Nat} (hk : k0 + rc ≤ (rm_X9_cutToOrder mc ms).cells ∧ n0 + rs ≤ (rm_X9_cutToOrder mc ms).slots) (a0 a1 a2 a3 a4 a5 a6 a7 a8 a9 a10 : Nat) (z4 : Int32) (v0 : Int32) (v1 : Int32) (v4 : Int32) (v5 : Int32) (v6 : Nat → Int64) (v23 : Nat → Int32) (v7 : Nat → Int32) (v8 : Nat → Int32) (v9 : Nat → Int32) (v19 : Nat → Int32) (v20 : Nat → Int32) (v21 : Nat → Int32) (v22 : Nat → Int32) {K185 : Nat → Nat → Int32 → Int32 → Nat → Nat → (Nat → Int64) → Nat → Nat → (Nat → Int32) → Nat → Nat → (Nat → Int32) → Prop}
    (n : Nat) (z5 : Int32) (v2 : Int32) (v3 : Int32) (v10 : Nat) (v11 : Nat) (v12 : Nat → Int64) (v13 : Nat) (v14 : Nat) (v15 : Nat → Int32) (v16 : Nat) (v17 : Nat) (v18 : Nat → Int32) (h : P_X9_cutToOrder_L137 z4 v0 v1 v4 v5 v6 v23 K185 n rc rs z5 v2 v3 v10 v11 v12 v13 v14 v15 v16 v17 v18)
    (hK185 : ∀ (k0 n0 rc rs : Nat), k0 + rc ≤ (rm_X9_cutToOrder mc ms).cells ∧ n0 + rs ≤ (rm_X9_cutToOrder mc ms).slots → ∀ (uv2 : Int32), ∀ (uv3 : Int32), ∀ (uv10 : Nat), ∀ (uv11 : Nat), ∀ (uv12 : Nat → Int64), ∀ (uv13 : Nat), ∀ (uv14 : Nat), ∀ (uv15 : Nat → Int32), ∀ (uv16 : Nat), ∀ (uv17 : Nat), ∀ (uv18 : Nat → Int32), K185 rc rs uv2 uv3 uv10 uv11 uv12 uv13 uv14 uv15 uv16 uv17 uv18 → ww x (W_X9_cutToOrder (xg x) a0 a1 a2 a3 a4 a5 a6 a7 a8 a9 a10 v0 v1 uv2 uv3 v4 v5 v6 v7 v8 v9 uv10 uv11 uv12 uv13 uv14 uv15 uv16 uv17 uv18 v19 v20 v21 v22 v23) [(4, .int z4)] k0 n0 185 []) :
    ww x (W_X9_cutToOrder (xg x) a0 a1 a2 a3 a4 a5 a6 a7 a8 a9 a10 v0 v1 v2 v3 v4 v5 v6 v7 v8 v9 v10 v11 v12 v13 v14 v15 v16 v17 v18 v19 v20 v21 v22 v23) [(0, .ref a0), (4, .int z4), (5, .int z5)] k0 n0 137 [] := by
  induction n generalizing k0 n0 rc rs z5 v2 v3 v10 v11 v12 v13 v14 v15 v16 v17 v18 with
  | zero => exact h.elim
  | succ n ih =>
    unfold P_X9_cutToOrder_L137 at h
    refine xw_iload hf (pc := 137) dX9_cutToOrder_137 2 rfl ?_
    refine xw_aload_n hf (pc := 139) dX9_cutToOrder_139 rfl 0 rfl ?_
    refine xw_get hf (pc := 140) dX9_cutToOrder_140 (T := TX9) mi_X9_cutToOrder_X9 rfl 0 rfl 18 (by decide) rfl mw_X9_cutToOrder_4 rfl ?_
    refine xw_icmp_ge hf (pc := 143) dX9_cutToOrder_143 (tgt := 185) rfl ⟨fun c => ?_, fun c => ?_⟩
    · have h := h.1 c
      refine xw_L [1] rfl ?_
      exact hK185 _ _ _ _ hk _ _ _ _ _ _ _ _ _ _ _ h
    · have h := h.2 c
      refine xw_aload_n hf (pc := 146) dX9_cutToOrder_146 rfl 0 rfl ?_
      refine xw_aload_n hf (pc := 147) dX9_cutToOrder_147 rfl 0 rfl ?_
      refine xw_get hf (pc := 148) dX9_cutToOrder_148 (T := TX9) mi_X9_cutToOrder_X9 rfl 0 rfl 1 (by decide) rfl mw_X9_cutToOrder_5 rfl ?_
      refine xw_aload_n hf (pc := 151) dX9_cutToOrder_151 rfl 0 rfl ?_
      refine xw_get hf (pc := 152) dX9_cutToOrder_152 (T := TX9) mi_X9_cutToOrder_X9 rfl 0 rfl 17 (by decide) rfl mw_X9_cutToOrder_6 rfl ?_
      refine xw_iload hf (pc := 155) dX9_cutToOrder_155 2 rfl ?_
      refine xw_iald hf (pc := 157) dX9_cutToOrder_157 12 rfl h.1 ?_
      have h := h.2
      refine xw_lald hf (pc := 158) dX9_cutToOrder_158 1 rfl h.1 ?_
      have h := h.2
      refine xw_iconst hf (pc := 159) dX9_cutToOrder_159 (v := 2) (by decide) ?_
      refine xw_aload_n hf (pc := 160) dX9_cutToOrder_160 rfl 0 rfl ?_
      refine xw_get hf (pc := 161) dX9_cutToOrder_161 (T := TX9) mi_X9_cutToOrder_X9 rfl 0 rfl 1 (by decide) rfl mw_X9_cutToOrder_5 rfl ?_
      refine xw_aload_n hf (pc := 164) dX9_cutToOrder_164 rfl 0 rfl ?_
      refine xw_get hf (pc := 165) dX9_cutToOrder_165 (T := TX9) mi_X9_cutToOrder_X9 rfl 0 rfl 17 (by decide) rfl mw_X9_cutToOrder_6 rfl ?_
      refine xw_iload hf (pc := 168) dX9_cutToOrder_168 2 rfl ?_
      refine xw_iald hf (pc := 170) dX9_cutToOrder_170 12 rfl h.1 ?_
      have h := h.2
      refine xw_lald hf (pc := 171) dX9_cutToOrder_171 1 rfl h.1 ?_
      have h := h.2
      refine xw_callS hf (pc := 172) (nA := 1) (Xr := W_X9_cutToOrder (xg x) a0 a1 a2 a3 a4 a5 a6 a7 a8 a9 a10 v0 v1 v2 v3 v4 v5 v6 v7 v8 v9 v10 v11 v12 v13 v14 v15 v16 v17 v18 v19 v20 v21 v22 v23) (rest := [.int 2, .long (v6 (v23 z5.toNatClampNeg).toNatClampNeg), .ref a0]) (c_X9_lengthOf (xl x) (xg x) (v6 (v23 z5.toNatClampNeg).toNatClampNeg) h) gX9_cutToOrder_X9_lengthOf (by rfl) rfl (by decide +kernel) ⟨⟨(Nat.le_of_ble_eq_true rfl), (Nat.le_of_ble_eq_true rfl)⟩, (Nat.le_trans (Nat.le_add_right _ _) hk.1), (Nat.le_trans (Nat.le_add_right _ _) hk.2)⟩ (Nat.le_of_ble_eq_true rfl) (sb_rf _) rfl dX9_cutToOrder_172 (fun v X1 hp => ?_)
      obtain ⟨r19, rfl, rfl, h⟩ := hp
      show ww x (W_X9_cutToOrder (xg x) a0 a1 a2 a3 a4 a5 a6 a7 a8 a9 a10 v0 v1 v2 v3 v4 v5 v6 v7 v8 v9 v10 v11 v12 v13 v14 v15 v16 v17 v18 v19 v20 v21 v22 v23) [(0, .ref a0), (4, .int z4), (5, .int z5)] k0 n0 175 [.int r19, .int 2, .long (v6 (v23 z5.toNatClampNeg).toNatClampNeg), .ref a0]
      refine xw_imul hf (pc := 175) dX9_cutToOrder_175 ?_
      obtain ⟨mc32, ms33, mc34, ms35, ⟨hb1, hb2⟩, h⟩ := h
      refine xw_callV hf (pc := 176) (nA := 2) (Xr := [(a1, .inl (gJ (xg x), 60, .inr (.inl v6))), (a2, .inl (gI (xg x), 27, .inl v7)), (a3, .inl (gI (xg x), 27, .inl v8)), (a4, .inl (gI (xg x), 27, .inl v9)), (a5, .inl (gI (xg x), 12, .inl v19)), (a6, .inl (gI (xg x), 27, .inl v20)), (a7, .inl (gI (xg x), 27, .inl v21)), (a8, .inl (gI (xg x), 60, .inl v22)), (a9, .inl (gI (xg x), 3, .inl v23))]) (rest := []) (T := TX9) (c_X9_write (xl x) (xg x) a0 a1 a2 a10 a3 a4 a5 a6 a7 a8 a9 v0 v1 v2 v3 v4 v5 v10 v11 v12 v13 v14 v15 v16 v17 v18 (v6 (v23 z5.toNatClampNeg).toNatClampNeg) (2 * r19) h) gX9_cutToOrder_X9_write (by rfl) rfl rfl (by decide +kernel) ⟨⟨(Nat.le_of_ble_eq_true rfl), (Nat.le_of_ble_eq_true rfl)⟩, (Nat.le_trans (show k0 + mc32 ≤ k0 + rc by omega) hk.1), (Nat.le_trans (show n0 + ms33 ≤ n0 + rs by omega) hk.2)⟩ (Nat.le_of_ble_eq_true rfl) rfl rfl (sb_of [0, 5, 6, 7, 1, 2, 3, 4, 8, 9, 10, 11, 12] rfl rfl) rfl dX9_cutToOrder_176 (fun v X1 hp => ?_)
      obtain ⟨w21, w22, w23, w24, w25, w26, w27, w28, w29, w30, w31, rfl, rfl, h⟩ := hp
      have hk : k0 + mc32 + mc34 ≤ (rm_X9_cutToOrder mc ms).cells ∧ n0 + ms33 + ms35 ≤ (rm_X9_cutToOrder mc ms).slots := ⟨Nat.le_trans (show k0 + mc32 + mc34 ≤ k0 + rc by omega) hk.1, Nat.le_trans (show n0 + ms33 + ms35 ≤ n0 + rs by omega) hk.2⟩
      refine xw_X (sb_of [0, 4, 5, 6, 7, 1, 2, 3, 8, 9, 10, 11, 12] rfl rfl) (show ww x (W_X9_cutToOrder (xg x) a0 a1 a2 a3 a4 a5 a6 a7 a8 a9 a10 v0 v1 w21 w22 v4 v5 v6 v7 v8 v9 w23 w24 w25 w26 w27 w28 w29 w30 w31 v19 v20 v21 v22 v23) [(0, .ref a0), (4, .int z4), (5, .int z5)] (k0 + mc32) (n0 + ms33) 179 [] from ?_)
      refine xw_iinc hf (pc := 179) dX9_cutToOrder_179 (v := z5 + 1) 2 rfl rfl [(5, .int (z5 + 1)), (0, .ref a0), (4, .int z4)] hn (by decide) rfl ?_
      refine xw_goto hf (pc := 182) dX9_cutToOrder_182 (tgt := 137) rfl ?_
      refine xw_L [1, 2, 0] rfl ?_
      exact ih hk _ _ _ _ _ _ _ _ _ _ _ _ h
set_option maxHeartbeats 4000000 in
set_option maxRecDepth 100000 in
theorem c_X9_cutToOrder (l : Launch) (g : Gx) (a0 a1 a2 a3 a4 a5 a6 a7 a8 a9 a10 : Nat) (v0 : Int32) (v1 : Int32) (v2 : Int32) (v3 : Int32) (v4 : Int32) (v5 : Int32) (v6 : Nat → Int64) (v7 : Nat → Int32) (v8 : Nat → Int32) (v9 : Nat → Int32) (v10 : Nat) (v11 : Nat) (v12 : Nat → Int64) (v13 : Nat) (v14 : Nat) (v15 : Nat → Int32) (v16 : Nat) (v17 : Nat) (v18 : Nat → Int32) (v19 : Nat → Int32) (v20 : Nat → Int32) (v21 : Nat → Int32) (v22 : Nat → Int32) (v23 : Nat → Int32) (p1 : Int64) (p3 : Int32) {post : Int32 → Int32 → Int32 → Int32 → Int32 → Int32 → (Nat → Int32) → (Nat → Int32) → (Nat → Int32) → Nat → Nat → (Nat → Int64) → Nat → Nat → (Nat → Int32) → Nat → Nat → (Nat → Int32) → (Nat → Int32) → (Nat → Int32) → (Nat → Int32) → (Nat → Int32) → (Nat → Int32) → Prop} {mc ms : Nat} (h : P_X9_cutToOrder post mc ms p1 p3 v0 v1 v2 v3 v4 v5 v6 v7 v8 v9 v10 v11 v12 v13 v14 v15 v16 v17 v18 v19 v20 v21 v22 v23) : cm l g yX9_cutToOrder wsX9_cutToOrder (rm_X9_cutToOrder mc ms) [.ref a0, .long p1, .int p3] (W_X9_cutToOrder g a0 a1 a2 a3 a4 a5 a6 a7 a8 a9 a10 v0 v1 v2 v3 v4 v5 v6 v7 v8 v9 v10 v11 v12 v13 v14 v15 v16 v17 v18 v19 v20 v21 v22 v23) (fun v X1 => ∃ (r : Int32) (uv0 : Int32) (uv2 : Int32) (uv3 : Int32) (uv4 : Int32) (uv5 : Int32) (uv7 : Nat → Int32) (uv8 : Nat → Int32) (uv9 : Nat → Int32) (uv10 : Nat) (uv11 : Nat) (uv12 : Nat → Int64) (uv13 : Nat) (uv14 : Nat) (uv15 : Nat → Int32) (uv16 : Nat) (uv17 : Nat) (uv18 : Nat → Int32) (uv19 : Nat → Int32) (uv20 : Nat → Int32) (uv21 : Nat → Int32) (uv22 : Nat → Int32) (uv23 : Nat → Int32), v = some (.int r) ∧ X1 = W_X9_cutToOrder g a0 a1 a2 a3 a4 a5 a6 a7 a8 a9 a10 uv0 v1 uv2 uv3 uv4 uv5 v6 uv7 uv8 uv9 uv10 uv11 uv12 uv13 uv14 uv15 uv16 uv17 uv18 uv19 uv20 uv21 uv22 uv23 ∧ post r uv0 uv2 uv3 uv4 uv5 uv7 uv8 uv9 uv10 uv11 uv12 uv13 uv14 uv15 uv16 uv17 uv18 uv19 uv20 uv21 uv22 uv23) := by
  refine cm_of (cc := cX9_cutToOrder) (nL := 6) (ret := (some .int)) (by decide +kernel) rfl (Nat.le_of_ble_eq_true rfl) ?_
  intro x hf hl hg hn hi hr
  subst hl
  subst hg
  show ww x (W_X9_cutToOrder (xg x) a0 a1 a2 a3 a4 a5 a6 a7 a8 a9 a10 v0 v1 v2 v3 v4 v5 v6 v7 v8 v9 v10 v11 v12 v13 v14 v15 v16 v17 v18 v19 v20 v21 v22 v23) [(0, .ref a0), (1, .long p1), (3, .int p3)] 0 0 0 []
  unfold P_X9_cutToOrder at h
  have hk : 0 + mc ≤ (rm_X9_cutToOrder mc ms).cells ∧ 0 + ms ≤ (rm_X9_cutToOrder mc ms).slots := ⟨Nat.le_of_eq (Nat.zero_add mc), Nat.le_of_eq (Nat.zero_add ms)⟩
  refine xw_aload_n hf (pc := 0) dX9_cutToOrder_0 rfl 0 rfl ?_
  refine xw_lload_n hf (pc := 1) dX9_cutToOrder_1 rfl 1 rfl ?_
  refine xw_iload_n hf (pc := 2) dX9_cutToOrder_2 rfl 2 rfl ?_
  refine xw_callV hf (pc := 3) (nA := 2) (Xr := [(a1, .inl (gJ (xg x), 60, .inr (.inl v6))), (a2, .inl (gI (xg x), 27, .inl v7)), (a3, .inl (gI (xg x), 27, .inl v8)), (a4, .inl (gI (xg x), 27, .inl v9)), (v10, .inl (gJ (xg x), v11, .inr (.inl v12))), (v13, .inl (gI (xg x), v14, .inl v15)), (v16, .inl (gZ (xg x), v17, .inl v18)), (a5, .inl (gI (xg x), 12, .inl v19)), (a6, .inl (gI (xg x), 27, .inl v20)), (a7, .inl (gI (xg x), 27, .inl v21)), (a8, .inl (gI (xg x), 60, .inl v22)), (a9, .inl (gI (xg x), 3, .inl v23))]) (rest := []) (T := TX9) (c_X9_isOrder (xl x) (xg x) a0 a1 a2 a10 a3 a4 v10 v13 v16 a5 a6 a7 a8 a9 v0 v1 v2 v3 v4 v5 p1 p3 h) gX9_cutToOrder_X9_isOrder (by rfl) rfl rfl (by decide +kernel) ⟨⟨(Nat.le_of_ble_eq_true rfl), (Nat.le_of_ble_eq_true rfl)⟩, (Nat.le_trans (Nat.le_add_right _ _) hk.1), (Nat.le_trans (Nat.le_add_right _ _) hk.2)⟩ (Nat.le_of_ble_eq_true rfl) rfl rfl (sb_of [0, 1, 2, 3, 4, 5, 6, 7, 8, 9, 10, 11, 12] rfl rfl) rfl dX9_cutToOrder_3 (fun v X1 hp => ?_)
  obtain ⟨r1, w2, rfl, rfl, h⟩ := hp
  refine xw_X (sb_of [0, 1, 2, 3, 4, 5, 6, 7, 8, 9, 10, 11, 12] rfl rfl) (show ww x (W_X9_cutToOrder (xg x) a0 a1 a2 a3 a4 a5 a6 a7 a8 a9 a10 w2 v1 v2 v3 v4 v5 v6 v7 v8 v9 v10 v11 v12 v13 v14 v15 v16 v17 v18 v19 v20 v21 v22 v23) [(0, .ref a0), (1, .long p1), (3, .int p3)] 0 0 6 [.int r1] from ?_)
  refine xw_if_ne hf (pc := 6) dX9_cutToOrder_6 (c := r1 = 0) Iff.rfl (tgt := 11) rfl ⟨fun c => ?_, fun c => ?_⟩
  · have h := h.1 c
    refine xw_iconst hf (pc := 9) dX9_cutToOrder_9 (v := 0) (by decide) ?_
    exact xw_iret hf (pc := 10) dX9_cutToOrder_10 hr (Nat.le_trans (Nat.le_add_right _ _) hk.1) (Nat.le_trans (Nat.le_add_right _ _) hk.2) ⟨_, _, _, _, _, _, _, _, _, _, _, _, _, _, _, _, _, _, _, _, _, _, _, rfl, rfl, h⟩
  · have h := h.2 c
    refine xw_aload_n hf (pc := 11) dX9_cutToOrder_11 rfl 0 rfl ?_
    refine xw_lload_n hf (pc := 12) dX9_cutToOrder_12 rfl 1 rfl ?_
    refine xw_iload_n hf (pc := 13) dX9_cutToOrder_13 rfl 2 rfl ?_
    refine xw_callV hf (pc := 14) (nA := 2) (Xr := [(a2, .inl (gI (xg x), 27, .inl v7)), (a3, .inl (gI (xg x), 27, .inl v8)), (a4, .inl (gI (xg x), 27, .inl v9)), (v10, .inl (gJ (xg x), v11, .inr (.inl v12))), (v13, .inl (gI (xg x), v14, .inl v15)), (v16, .inl (gZ (xg x), v17, .inl v18))]) (rest := []) (T := TX9) (c_X9_findPlan (xl x) (xg x) a0 a1 a5 a6 a7 a8 a9 a2 a10 a3 a4 v10 v13 v16 w2 v1 v2 v3 v4 v5 v6 v19 v20 v21 v22 v23 p1 p3 h) gX9_cutToOrder_X9_findPlan (by rfl) rfl rfl (by decide +kernel) ⟨⟨(Nat.le_of_ble_eq_true rfl), (Nat.le_of_ble_eq_true rfl)⟩, (Nat.le_trans (Nat.le_add_right _ _) hk.1), (Nat.le_trans (Nat.le_add_right _ _) hk.2)⟩ (Nat.le_of_ble_eq_true rfl) rfl rfl (sb_of [0, 1, 8, 9, 10, 11, 12, 2, 3, 4, 5, 6, 7] rfl rfl) rfl dX9_cutToOrder_14 (fun v X1 hp => ?_)
    obtain ⟨r3, w4, w5, w6, w7, w8, w9, w10, rfl, rfl, h⟩ := hp
    refine xw_X (sb_of [0, 1, 7, 8, 9, 10, 11, 12, 2, 3, 4, 5, 6] rfl rfl) (show ww x (W_X9_cutToOrder (xg x) a0 a1 a2 a3 a4 a5 a6 a7 a8 a9 a10 w2 v1 v2 v3 w4 w5 v6 v7 v8 v9 v10 v11 v12 v13 v14 v15 v16 v17 v18 w6 w7 w8 w9 w10) [(0, .ref a0), (1, .long p1), (3, .int p3)] 0 0 17 [.int r3] from ?_)
    refine xw_istore hf (pc := 17) dX9_cutToOrder_17 [(4, .int r3), (0, .ref a0), (1, .long p1), (3, .int p3)] hn (by decide) rfl ?_
    refine xw_iconst hf (pc := 19) dX9_cutToOrder_19 (v := 1) (by decide) ?_
    refine xw_istore hf (pc := 20) dX9_cutToOrder_20 [(5, .int 1), (4, .int r3), (0, .ref a0), (1, .long p1), (3, .int p3)] hn (by decide) rfl ?_
    refine xw_L [2, 1, 0] rfl ?_
    refine w_X9_cutToOrder_L22 hf hn ⟨(Nat.le_trans (Nat.le_add_right _ _) hk.1), (Nat.le_trans (Nat.le_add_right _ _) hk.2)⟩ a0 a1 a2 a3 a4 a5 a6 a7 a8 a9 a10 r3 w2 v1 v2 v3 w4 w5 v6 v7 w7 w10 v8 v9 v10 v11 v12 v13 v14 v15 v16 v17 v18 w6 w8 w9 FU _ h (fun h => ?_) (fun h => ?_)
    · refine xw_aload_n hf (pc := 49) dX9_cutToOrder_49 rfl 0 rfl ?_
      refine xw_iconst hf (pc := 50) dX9_cutToOrder_50 (v := 2) (by decide) ?_
      refine xw_callV hf (pc := 51) (nA := 1) (Xr := [(a1, .inl (gJ (xg x), 60, .inr (.inl v6))), (a2, .inl (gI (xg x), 27, .inl v7)), (a3, .inl (gI (xg x), 27, .inl v8)), (a4, .inl (gI (xg x), 27, .inl v9)), (v10, .inl (gJ (xg x), v11, .inr (.inl v12))), (v13, .inl (gI (xg x), v14, .inl v15)), (v16, .inl (gZ (xg x), v17, .inl v18)), (a5, .inl (gI (xg x), 12, .inl w6)), (a6, .inl (gI (xg x), 27, .inl w7)), (a7, .inl (gI (xg x), 27, .inl w8)), (a8, .inl (gI (xg x), 60, .inl w9)), (a9, .inl (gI (xg x), 3, .inl w10))]) (rest := []) (T := TX9) (c_X9_fail (xl x) (xg x) a0 a1 a2 a10 a3 a4 v10 v13 v16 a5 a6 a7 a8 a9 w2 v1 v2 v3 w4 w5 2 h) gX9_cutToOrder_X9_fail (by rfl) rfl rfl (by decide +kernel) ⟨⟨(Nat.le_of_ble_eq_true rfl), (Nat.le_of_ble_eq_true rfl)⟩, (Nat.le_trans (Nat.le_add_right _ _) hk.1), (Nat.le_trans (Nat.le_add_right _ _) hk.2)⟩ (Nat.le_of_ble_eq_true rfl) rfl rfl (sb_of [0, 1, 2, 3, 4, 5, 6, 7, 8, 9, 10, 11, 12] rfl rfl) rfl dX9_cutToOrder_51 (fun v X1 hp => ?_)
      obtain ⟨r12, w13, rfl, rfl, h⟩ := hp
      refine xw_X (sb_of [0, 1, 2, 3, 4, 5, 6, 7, 8, 9, 10, 11, 12] rfl rfl) (show ww x (W_X9_cutToOrder (xg x) a0 a1 a2 a3 a4 a5 a6 a7 a8 a9 a10 w13 v1 v2 v3 w4 w5 v6 v7 v8 v9 v10 v11 v12 v13 v14 v15 v16 v17 v18 w6 w7 w8 w9 w10) [(0, .ref a0)] 0 0 54 [.int r12] from ?_)
      exact xw_iret hf (pc := 54) dX9_cutToOrder_54 hr (Nat.le_trans (Nat.le_add_right _ _) hk.1) (Nat.le_trans (Nat.le_add_right _ _) hk.2) ⟨_, _, _, _, _, _, _, _, _, _, _, _, _, _, _, _, _, _, _, _, _, _, _, rfl, rfl, h⟩
    · refine xw_iconst hf (pc := 61) dX9_cutToOrder_61 (v := 1) (by decide) ?_
      refine xw_istore hf (pc := 62) dX9_cutToOrder_62 [(5, .int 1), (0, .ref a0), (4, .int r3)] hn (by decide) rfl ?_
      refine xw_L [1, 2, 0] rfl ?_
      refine w_X9_cutToOrder_L64 hf hn ⟨(Nat.le_trans (Nat.le_add_right _ _) hk.1), (Nat.le_trans (Nat.le_add_right _ _) hk.2)⟩ a0 a1 a2 a3 a4 a5 a6 a7 a8 a9 a10 r3 w2 v1 v2 v3 w4 w5 v6 w7 w10 v10 v11 v12 v13 v14 v15 v16 v17 v18 w6 w8 w9 FU _ _ _ _ h (fun w16 w17 w18 h => ?_)
      refine xw_iconst hf (pc := 134) dX9_cutToOrder_134 (v := 0) (by decide) ?_
      refine xw_istore hf (pc := 135) dX9_cutToOrder_135 [(5, .int 0), (0, .ref a0), (4, .int r3)] hn (by decide) rfl ?_
      refine xw_L [1, 2, 0] rfl ?_
      refine w_X9_cutToOrder_L137 hf hn hk a0 a1 a2 a3 a4 a5 a6 a7 a8 a9 a10 r3 w2 v1 w4 w5 v6 w10 w16 w17 w18 w6 w7 w8 w9 FU _ _ _ _ _ _ _ _ _ _ _ _ h (fun k47 n48 mc49 ms50 hk w36 w37 w38 w39 w40 w41 w42 w43 w44 w45 w46 h => ?_)
      refine xw_iload hf (pc := 185) dX9_cutToOrder_185 0 rfl ?_
      exact xw_iret hf (pc := 187) dX9_cutToOrder_187 hr (Nat.le_trans (Nat.le_add_right _ _) hk.1) (Nat.le_trans (Nat.le_add_right _ _) hk.2) ⟨_, _, _, _, _, _, _, _, _, _, _, _, _, _, _, _, _, _, _, _, _, _, _, rfl, rfl, h⟩
