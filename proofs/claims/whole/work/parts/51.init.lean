abbrev W_X9_init (g : Gx) (a0 q1 q2 q3 q4 q5 q9 q10 q11 q12 q13 : Nat) (v0 : Int32) (v1 : Int32) (v2 : Int32) (v3 : Int32) (v4 : Int32) (v5 : Int32) (v6 : Nat → Int64) (v7 : Nat → Int32) (v8 : Nat → Int32) (v9 : Nat → Int32) (v10 : Nat → Int32) (v11 : Nat) (v12 : Nat) (v13 : Nat → Int64) (v14 : Nat) (v15 : Nat) (v16 : Nat → Int32) (v17 : Nat) (v18 : Nat) (v19 : Nat → Int32) (v20 : Nat → Int32) (v21 : Nat → Int32) (v22 : Nat → Int32) (v23 : Nat → Int32) (v24 : Nat → Int32) : va_W := [(a0, .inr (9, [.int v0, .ref q1, .int v1, .ref q2, .ref q3, .ref q4, .ref q5, .ref v11, .ref v14, .ref v17, .int v2, .int v3, .ref q9, .int v4, .ref q10, .ref q11, .ref q12, .ref q13, .int v5])), (q1, .inl (gJ g, 60, .inr (.inl v6))), (q2, .inl (gI g, 27, .inl v7)), (q3, .inl (gI g, 27, .inl v8)), (q4, .inl (gI g, 27, .inl v9)), (q5, .inl (gI g, 27, .inl v10)), (v11, .inl (gJ g, v12, .inr (.inl v13))), (v14, .inl (gI g, v15, .inl v16)), (v17, .inl (gZ g, v18, .inl v19)), (q9, .inl (gI g, 12, .inl v20)), (q10, .inl (gI g, 27, .inl v21)), (q11, .inl (gI g, 27, .inl v22)), (q12, .inl (gI g, 60, .inl v23)), (q13, .inl (gI g, 3, .inl v24))]
abbrev rm_X9_init : Room := { frames := 1, cells := 13, slots := 489, locals := 24 }
theorem mw_X9_init_0 : (Cond.methodLink RX9 1 objectInit : Cond) ∈ wsX9_init := (List.mem_cons_of_mem _ (List.mem_append_left _ (List.mem_of_getElem? (i := 0) rfl)))
theorem mw_X9_init_1 : (Cond.instanceMethod objectInit : Cond) ∈ wsX9_init := (List.mem_cons_of_mem _ (List.mem_append_left _ (List.mem_of_getElem? (i := 1) rfl)))
theorem mw_X9_init_2 : (Cond.code objectInit ⟨#[0xb1]⟩ 1 none : Cond) ∈ wsX9_init := (List.mem_cons_of_mem _ (List.mem_append_left _ (List.mem_of_getElem? (i := 2) rfl)))
theorem mw_X9_init_3 : (Cond.arrayClass .long : Cond) ∈ wsX9_init := (List.mem_cons_of_mem _ (List.mem_append_left _ (List.mem_of_getElem? (i := 3) rfl)))
theorem mw_X9_init_4 : (Cond.fieldLink RX9 7 "AnagramButcherModel" "words" "[J" : Cond) ∈ wsX9_init := (List.mem_cons_of_mem _ (List.mem_append_left _ (List.mem_of_getElem? (i := 4) rfl)))
theorem mw_X9_init_5 : (Cond.arrayClass .int : Cond) ∈ wsX9_init := (List.mem_cons_of_mem _ (List.mem_append_left _ (List.mem_of_getElem? (i := 5) rfl)))
theorem mw_X9_init_6 : (Cond.fieldLink RX9 13 "AnagramButcherModel" "stock" "[I" : Cond) ∈ wsX9_init := (List.mem_cons_of_mem _ (List.mem_append_left _ (List.mem_of_getElem? (i := 6) rfl)))
theorem mw_X9_init_7 : (Cond.fieldLink RX9 17 "AnagramButcherModel" "base" "[I" : Cond) ∈ wsX9_init := (List.mem_cons_of_mem _ (List.mem_append_left _ (List.mem_of_getElem? (i := 7) rfl)))
theorem mw_X9_init_8 : (Cond.fieldLink RX9 20 "AnagramButcherModel" "came" "[I" : Cond) ∈ wsX9_init := (List.mem_cons_of_mem _ (List.mem_append_left _ (List.mem_of_getElem? (i := 8) rfl)))
theorem mw_X9_init_9 : (Cond.fieldLink RX9 23 "AnagramButcherModel" "sold" "[I" : Cond) ∈ wsX9_init := (List.mem_cons_of_mem _ (List.mem_append_left _ (List.mem_of_getElem? (i := 9) rfl)))
theorem mw_X9_init_10 : (Cond.fieldLink RX9 26 "AnagramButcherModel" "receiptWords" "[J" : Cond) ∈ wsX9_init := (List.mem_cons_of_mem _ (List.mem_append_left _ (List.mem_of_getElem? (i := 10) rfl)))
theorem mw_X9_init_11 : (Cond.fieldLink RX9 29 "AnagramButcherModel" "receiptPrices" "[I" : Cond) ∈ wsX9_init := (List.mem_cons_of_mem _ (List.mem_append_left _ (List.mem_of_getElem? (i := 11) rfl)))
theorem mw_X9_init_12 : (Cond.arrayClass .boolean : Cond) ∈ wsX9_init := (List.mem_cons_of_mem _ (List.mem_append_left _ (List.mem_of_getElem? (i := 12) rfl)))
theorem mw_X9_init_13 : (Cond.fieldLink RX9 32 "AnagramButcherModel" "returned" "[Z" : Cond) ∈ wsX9_init := (List.mem_cons_of_mem _ (List.mem_append_left _ (List.mem_of_getElem? (i := 13) rfl)))
theorem mw_X9_init_14 : (Cond.fieldLink RX9 36 "AnagramButcherModel" "spelt" "[I" : Cond) ∈ wsX9_init := (List.mem_cons_of_mem _ (List.mem_append_left _ (List.mem_of_getElem? (i := 14) rfl)))
theorem mw_X9_init_15 : (Cond.fieldLink RX9 39 "AnagramButcherModel" "counts" "[I" : Cond) ∈ wsX9_init := (List.mem_cons_of_mem _ (List.mem_append_left _ (List.mem_of_getElem? (i := 15) rfl)))
theorem mw_X9_init_16 : (Cond.fieldLink RX9 42 "AnagramButcherModel" "inWord" "[I" : Cond) ∈ wsX9_init := (List.mem_cons_of_mem _ (List.mem_append_left _ (List.mem_of_getElem? (i := 16) rfl)))
theorem mw_X9_init_17 : (Cond.fieldLink RX9 45 "AnagramButcherModel" "order" "[I" : Cond) ∈ wsX9_init := (List.mem_cons_of_mem _ (List.mem_append_left _ (List.mem_of_getElem? (i := 17) rfl)))
theorem mw_X9_init_18 : (Cond.fieldLink RX9 48 "AnagramButcherModel" "plan" "[I" : Cond) ∈ wsX9_init := (List.mem_cons_of_mem _ (List.mem_append_left _ (List.mem_of_getElem? (i := 18) rfl)))
theorem mi_X9_init_X9 : ∀ w ∈ wsX90, w ∈ wsX9_init := fun _ h => (List.mem_cons_of_mem _ (List.mem_append_right _ h))
set_option maxHeartbeats 4000000 in
set_option maxRecDepth 100000 in
theorem w_X9_init_L109 {x : Cx} (hf : fx x (rm_X9_init) RX9 cX9_init wsX9_init) (hn : xn x = 2) {k0 n0 : Nat} (hk : k0 ≤ (rm_X9_init).cells ∧ n0 ≤ (rm_X9_init).slots) (a0 q1 q2 q3 q4 q5 q9 q10 q11 q12 q13 : Nat) (v0 : Int32) (v1 : Int32) (v2 : Int32) (v3 : Int32) (v4 : Int32) (v5 : Int32) (v6 : Nat → Int64) (v7 : Nat → Int32) (v9 : Nat → Int32) (v10 : Nat → Int32) (v11 : Nat) (v12 : Nat) (v13 : Nat → Int64) (v14 : Nat) (v15 : Nat) (v16 : Nat → Int32) (v17 : Nat) (v18 : Nat) (v19 : Nat → Int32) (v20 : Nat → Int32) (v21 : Nat → Int32) (v22 : Nat → Int32) (v23 : Nat → Int32) (v24 : Nat → Int32) {K170 : (Nat → Int32) → Prop}
    (n : Nat) (z1 : Int32) (v8 : Nat → Int32) (h : P_X9_init_L109 K170 n z1 v8)
    (hK170 : ∀ (uv8 : Nat → Int32), K170 uv8 → ww x (W_X9_init (xg x) a0 q1 q2 q3 q4 q5 q9 q10 q11 q12 q13 v0 v1 v2 v3 v4 v5 v6 v7 uv8 v9 v10 v11 v12 v13 v14 v15 v16 v17 v18 v19 v20 v21 v22 v23 v24) [] k0 n0 170 []) :
    ww x (W_X9_init (xg x) a0 q1 q2 q3 q4 q5 q9 q10 q11 q12 q13 v0 v1 v2 v3 v4 v5 v6 v7 v8 v9 v10 v11 v12 v13 v14 v15 v16 v17 v18 v19 v20 v21 v22 v23 v24) [(0, .ref a0), (1, .int z1)] k0 n0 109 [] := by
  induction n generalizing z1 v8 with
  | zero => exact h.elim
  | succ n ih =>
    unfold P_X9_init_L109 at h
    refine xw_iload_n hf (pc := 109) dX9_init_109 rfl 1 rfl ?_
    refine xw_bipush hf (pc := 110) dX9_init_110 (v := 26) (by decide) ?_
    refine xw_icmp_gt hf (pc := 112) dX9_init_112 (tgt := 170) rfl ⟨fun c => ?_, fun c => ?_⟩
    · have h := h.1 c
      refine xw_L [] rfl ?_
      exact hK170 _ h
    · have h := h.2 c
      refine xw_aload_n hf (pc := 115) dX9_init_115 rfl 0 rfl ?_
      refine xw_get hf (pc := 116) dX9_init_116 (T := TX9) mi_X9_init_X9 rfl 0 rfl 4 (by decide) rfl mw_X9_init_7 rfl ?_
      refine xw_iload_n hf (pc := 119) dX9_init_119 rfl 1 rfl ?_
      refine xw_iload_n hf (pc := 120) dX9_init_120 rfl 1 rfl ?_
      refine xw_callS hf (pc := 121) (nA := 1) (Xr := W_X9_init (xg x) a0 q1 q2 q3 q4 q5 q9 q10 q11 q12 q13 v0 v1 v2 v3 v4 v5 v6 v7 v8 v9 v10 v11 v12 v13 v14 v15 v16 v17 v18 v19 v20 v21 v22 v23 v24) (rest := [.int z1, .ref q3]) (c_X9_isVowel (xl x) (xg x) z1 h) gX9_init_X9_isVowel (by rfl) rfl (by decide +kernel) ⟨⟨(Nat.le_of_ble_eq_true rfl), (Nat.le_of_ble_eq_true rfl)⟩, hk.1, hk.2⟩ (Nat.le_of_ble_eq_true rfl) (sb_rf _) rfl dX9_init_121 (fun v X1 hp => ?_)
      obtain ⟨r14, rfl, rfl, h⟩ := hp
      show ww x (W_X9_init (xg x) a0 q1 q2 q3 q4 q5 q9 q10 q11 q12 q13 v0 v1 v2 v3 v4 v5 v6 v7 v8 v9 v10 v11 v12 v13 v14 v15 v16 v17 v18 v19 v20 v21 v22 v23 v24) [(0, .ref a0), (1, .int z1)] k0 n0 124 [.int r14, .int z1, .ref q3]
      refine xw_if_eq hf (pc := 124) dX9_init_124 (c := r14 = 0) Iff.rfl (tgt := 132) rfl ⟨fun c => ?_, fun c => ?_⟩
      · have h := h.1 c
        refine xw_iload_n hf (pc := 132) dX9_init_132 rfl 1 rfl ?_
        refine xw_bipush hf (pc := 133) dX9_init_133 (v := 10) (by decide) ?_
        refine xw_icmp_eq hf (pc := 135) dX9_init_135 (tgt := 156) rfl ⟨fun c => ?_, fun c => ?_⟩
        · have h := h.1 c
          refine xw_bipush hf (pc := 156) dX9_init_156 (v := 90) (by decide) ?_
          refine xw_goto hf (pc := 158) dX9_init_158 (tgt := 163) rfl ?_
          refine xw_iast hf (pc := 163) dX9_init_163 3 rfl h.1 (W_X9_init (xg x) a0 q1 q2 q3 q4 q5 q9 q10 q11 q12 q13 v0 v1 v2 v3 v4 v5 v6 v7 (upd v8 z1.toNatClampNeg 90) v9 v10 v11 v12 v13 v14 v15 v16 v17 v18 v19 v20 v21 v22 v23 v24) rfl ?_
          have h := h.2
          refine xw_iinc hf (pc := 164) dX9_init_164 (v := z1 + 1) 1 rfl rfl [(1, .int (z1 + 1)), (0, .ref a0)] hn (by decide) rfl ?_
          refine xw_goto hf (pc := 167) dX9_init_167 (tgt := 109) rfl ?_
          refine xw_L [1, 0] rfl ?_
          exact ih _ _ h
        · have h := h.2 c
          refine xw_iload_n hf (pc := 138) dX9_init_138 rfl 1 rfl ?_
          refine xw_bipush hf (pc := 139) dX9_init_139 (v := 17) (by decide) ?_
          refine xw_icmp_eq hf (pc := 141) dX9_init_141 (tgt := 156) rfl ⟨fun c => ?_, fun c => ?_⟩
          · have h := h.1 c
            refine xw_bipush hf (pc := 156) dX9_init_156 (v := 90) (by decide) ?_
            refine xw_goto hf (pc := 158) dX9_init_158 (tgt := 163) rfl ?_
            refine xw_iast hf (pc := 163) dX9_init_163 3 rfl h.1 (W_X9_init (xg x) a0 q1 q2 q3 q4 q5 q9 q10 q11 q12 q13 v0 v1 v2 v3 v4 v5 v6 v7 (upd v8 z1.toNatClampNeg 90) v9 v10 v11 v12 v13 v14 v15 v16 v17 v18 v19 v20 v21 v22 v23 v24) rfl ?_
            have h := h.2
            refine xw_iinc hf (pc := 164) dX9_init_164 (v := z1 + 1) 1 rfl rfl [(1, .int (z1 + 1)), (0, .ref a0)] hn (by decide) rfl ?_
            refine xw_goto hf (pc := 167) dX9_init_167 (tgt := 109) rfl ?_
            refine xw_L [1, 0] rfl ?_
            exact ih _ _ h
          · have h := h.2 c
            refine xw_iload_n hf (pc := 144) dX9_init_144 rfl 1 rfl ?_
            refine xw_bipush hf (pc := 145) dX9_init_145 (v := 24) (by decide) ?_
            refine xw_icmp_eq hf (pc := 147) dX9_init_147 (tgt := 156) rfl ⟨fun c => ?_, fun c => ?_⟩
            · have h := h.1 c
              refine xw_bipush hf (pc := 156) dX9_init_156 (v := 90) (by decide) ?_
              refine xw_goto hf (pc := 158) dX9_init_158 (tgt := 163) rfl ?_
              refine xw_iast hf (pc := 163) dX9_init_163 3 rfl h.1 (W_X9_init (xg x) a0 q1 q2 q3 q4 q5 q9 q10 q11 q12 q13 v0 v1 v2 v3 v4 v5 v6 v7 (upd v8 z1.toNatClampNeg 90) v9 v10 v11 v12 v13 v14 v15 v16 v17 v18 v19 v20 v21 v22 v23 v24) rfl ?_
              have h := h.2
              refine xw_iinc hf (pc := 164) dX9_init_164 (v := z1 + 1) 1 rfl rfl [(1, .int (z1 + 1)), (0, .ref a0)] hn (by decide) rfl ?_
              refine xw_goto hf (pc := 167) dX9_init_167 (tgt := 109) rfl ?_
              refine xw_L [1, 0] rfl ?_
              exact ih _ _ h
            · have h := h.2 c
              refine xw_iload_n hf (pc := 150) dX9_init_150 rfl 1 rfl ?_
              refine xw_bipush hf (pc := 151) dX9_init_151 (v := 26) (by decide) ?_
              refine xw_icmp_ne hf (pc := 153) dX9_init_153 (tgt := 161) rfl ⟨fun c => ?_, fun c => ?_⟩
              · have h := h.1 c
                refine xw_bipush hf (pc := 156) dX9_init_156 (v := 90) (by decide) ?_
                refine xw_goto hf (pc := 158) dX9_init_158 (tgt := 163) rfl ?_
                refine xw_iast hf (pc := 163) dX9_init_163 3 rfl h.1 (W_X9_init (xg x) a0 q1 q2 q3 q4 q5 q9 q10 q11 q12 q13 v0 v1 v2 v3 v4 v5 v6 v7 (upd v8 z1.toNatClampNeg 90) v9 v10 v11 v12 v13 v14 v15 v16 v17 v18 v19 v20 v21 v22 v23 v24) rfl ?_
                have h := h.2
                refine xw_iinc hf (pc := 164) dX9_init_164 (v := z1 + 1) 1 rfl rfl [(1, .int (z1 + 1)), (0, .ref a0)] hn (by decide) rfl ?_
                refine xw_goto hf (pc := 167) dX9_init_167 (tgt := 109) rfl ?_
                refine xw_L [1, 0] rfl ?_
                exact ih _ _ h
              · have h := h.2 c
                refine xw_bipush hf (pc := 161) dX9_init_161 (v := 60) (by decide) ?_
                refine xw_iast hf (pc := 163) dX9_init_163 3 rfl h.1 (W_X9_init (xg x) a0 q1 q2 q3 q4 q5 q9 q10 q11 q12 q13 v0 v1 v2 v3 v4 v5 v6 v7 (upd v8 z1.toNatClampNeg 60) v9 v10 v11 v12 v13 v14 v15 v16 v17 v18 v19 v20 v21 v22 v23 v24) rfl ?_
                have h := h.2
                refine xw_iinc hf (pc := 164) dX9_init_164 (v := z1 + 1) 1 rfl rfl [(1, .int (z1 + 1)), (0, .ref a0)] hn (by decide) rfl ?_
                refine xw_goto hf (pc := 167) dX9_init_167 (tgt := 109) rfl ?_
                refine xw_L [1, 0] rfl ?_
                exact ih _ _ h
      · have h := h.2 c
        refine xw_bipush hf (pc := 127) dX9_init_127 (v := 40) (by decide) ?_
        refine xw_goto hf (pc := 129) dX9_init_129 (tgt := 163) rfl ?_
        refine xw_iast hf (pc := 163) dX9_init_163 3 rfl h.1 (W_X9_init (xg x) a0 q1 q2 q3 q4 q5 q9 q10 q11 q12 q13 v0 v1 v2 v3 v4 v5 v6 v7 (upd v8 z1.toNatClampNeg 40) v9 v10 v11 v12 v13 v14 v15 v16 v17 v18 v19 v20 v21 v22 v23 v24) rfl ?_
        have h := h.2
        refine xw_iinc hf (pc := 164) dX9_init_164 (v := z1 + 1) 1 rfl rfl [(1, .int (z1 + 1)), (0, .ref a0)] hn (by decide) rfl ?_
        refine xw_goto hf (pc := 167) dX9_init_167 (tgt := 109) rfl ?_
        refine xw_L [1, 0] rfl ?_
        exact ih _ _ h
set_option maxHeartbeats 4000000 in
set_option maxRecDepth 100000 in
theorem c_X9_init (l : Launch) (g : Gx) (a0 : Nat) {post : (Nat → Int32) → Prop} (h : P_X9_init post) : cm l g yX9_init wsX9_init rm_X9_init [.ref a0] [(a0, .inr (9, [.int 0, .null, .int 0, .null, .null, .null, .null, .null, .null, .null, .int 0, .int 0, .null, .int 0, .null, .null, .null, .null, .int 0]))] (fun v X1 => ∃ (q1 q2 q3 q4 q5 q6 q7 q8 q9 q10 q11 q12 q13 : Nat) (uv8 : Nat → Int32), v = none ∧ X1 = W_X9_init g a0 q1 q2 q3 q4 q5 q9 q10 q11 q12 q13 0 0 0 0 0 0 (fun _ => 0) (fun _ => 0) uv8 (fun _ => 0) (fun _ => 0) q6 64 (fun _ => 0) q7 64 (fun _ => 0) q8 64 (fun _ => 0) (fun _ => 0) (fun _ => 0) (fun _ => 0) (fun _ => 0) (fun _ => 0) ∧ post uv8) := by
  refine cm_of (cc := cX9_init) (nL := 2) (ret := none) (by decide +kernel) rfl (Nat.le_of_ble_eq_true rfl) ?_
  intro x hf hl hg hn hin hr
  subst hl
  subst hg
  unfold P_X9_init at h
  show ww x [(a0, .inr (9, [.int 0, .null, .int 0, .null, .null, .null, .null, .null, .null, .null, .int 0, .int 0, .null, .int 0, .null, .null, .null, .null, .int 0]))] [(0, .ref a0)] 0 0 0 []
  refine xw_aload_n hf (pc := 0) dX9_init_0 rfl 0 rfl ?_
  refine xw_objInit hf mw_X9_init_0 mw_X9_init_1 mw_X9_init_2 ⟨(Nat.le_of_ble_eq_true rfl), (Nat.le_of_ble_eq_true rfl)⟩ (Nat.le_of_ble_eq_true rfl) dX9_init_1 ?_
  refine xw_aload_n hf (pc := 4) dX9_init_4 rfl 0 rfl ?_
  refine xw_bipush hf (pc := 5) dX9_init_5 (v := 60) (by decide) ?_
  refine xw_newa hf (pc := 7) dX9_init_7 (N := 60) (a0 := (60, .inr (.inl (fun _ => 0)))) mw_X9_init_3 rfl 1 rfl (fun _ => rfl) (by decide) (by decide) (by decide) (Nat.le_of_ble_eq_true rfl) (Nat.le_of_ble_eq_true rfl) (fun q1 => ?_)
  show ww x [(a0, .inr (9, [.int 0, .null, .int 0, .null, .null, .null, .null, .null, .null, .null, .int 0, .int 0, .null, .int 0, .null, .null, .null, .null, .int 0])), (q1, .inl (gJ (xg x), 60, .inr (.inl (fun _ => 0))))] [(0, .ref a0)] 1 60 9 [.ref q1, .ref a0]
  refine xw_putF hf (pc := 9) dX9_init_9 hin (T := TX9) mi_X9_init_X9 rfl tyX9_ok nmX9 0 rfl 1 (by decide) rfl mw_X9_init_4 rfl rfl rfl rfl rfl (Nat.le_of_ble_eq_true rfl) [(a0, .inr (9, [.int 0, .ref q1, .int 0, .null, .null, .null, .null, .null, .null, .null, .int 0, .int 0, .null, .int 0, .null, .null, .null, .null, .int 0])), (q1, .inl (gJ (xg x), 60, .inr (.inl (fun _ => 0))))] rfl ?_
  refine xw_aload_n hf (pc := 12) dX9_init_12 rfl 0 rfl ?_
  refine xw_bipush hf (pc := 13) dX9_init_13 (v := 27) (by decide) ?_
  refine xw_newa hf (pc := 15) dX9_init_15 (N := 27) (a0 := (27, .inl (fun _ => 0))) mw_X9_init_5 rfl 0 rfl (fun _ => rfl) (by decide) (by decide) (by decide) (Nat.le_of_ble_eq_true rfl) (Nat.le_of_ble_eq_true rfl) (fun q2 => ?_)
  show ww x [(a0, .inr (9, [.int 0, .ref q1, .int 0, .null, .null, .null, .null, .null, .null, .null, .int 0, .int 0, .null, .int 0, .null, .null, .null, .null, .int 0])), (q1, .inl (gJ (xg x), 60, .inr (.inl (fun _ => 0)))), (q2, .inl (gI (xg x), 27, .inl (fun _ => 0)))] [(0, .ref a0)] 2 87 17 [.ref q2, .ref a0]
  refine xw_putF hf (pc := 17) dX9_init_17 hin (T := TX9) mi_X9_init_X9 rfl tyX9_ok nmX9 0 rfl 3 (by decide) rfl mw_X9_init_6 rfl rfl rfl rfl rfl (Nat.le_of_ble_eq_true rfl) [(a0, .inr (9, [.int 0, .ref q1, .int 0, .ref q2, .null, .null, .null, .null, .null, .null, .int 0, .int 0, .null, .int 0, .null, .null, .null, .null, .int 0])), (q1, .inl (gJ (xg x), 60, .inr (.inl (fun _ => 0)))), (q2, .inl (gI (xg x), 27, .inl (fun _ => 0)))] rfl ?_
  refine xw_aload_n hf (pc := 20) dX9_init_20 rfl 0 rfl ?_
  refine xw_bipush hf (pc := 21) dX9_init_21 (v := 27) (by decide) ?_
  refine xw_newa hf (pc := 23) dX9_init_23 (N := 27) (a0 := (27, .inl (fun _ => 0))) mw_X9_init_5 rfl 0 rfl (fun _ => rfl) (by decide) (by decide) (by decide) (Nat.le_of_ble_eq_true rfl) (Nat.le_of_ble_eq_true rfl) (fun q3 => ?_)
  show ww x [(a0, .inr (9, [.int 0, .ref q1, .int 0, .ref q2, .null, .null, .null, .null, .null, .null, .int 0, .int 0, .null, .int 0, .null, .null, .null, .null, .int 0])), (q1, .inl (gJ (xg x), 60, .inr (.inl (fun _ => 0)))), (q2, .inl (gI (xg x), 27, .inl (fun _ => 0))), (q3, .inl (gI (xg x), 27, .inl (fun _ => 0)))] [(0, .ref a0)] 3 114 25 [.ref q3, .ref a0]
  refine xw_putF hf (pc := 25) dX9_init_25 hin (T := TX9) mi_X9_init_X9 rfl tyX9_ok nmX9 0 rfl 4 (by decide) rfl mw_X9_init_7 rfl rfl rfl rfl rfl (Nat.le_of_ble_eq_true rfl) [(a0, .inr (9, [.int 0, .ref q1, .int 0, .ref q2, .ref q3, .null, .null, .null, .null, .null, .int 0, .int 0, .null, .int 0, .null, .null, .null, .null, .int 0])), (q1, .inl (gJ (xg x), 60, .inr (.inl (fun _ => 0)))), (q2, .inl (gI (xg x), 27, .inl (fun _ => 0))), (q3, .inl (gI (xg x), 27, .inl (fun _ => 0)))] rfl ?_
  refine xw_aload_n hf (pc := 28) dX9_init_28 rfl 0 rfl ?_
  refine xw_bipush hf (pc := 29) dX9_init_29 (v := 27) (by decide) ?_
  refine xw_newa hf (pc := 31) dX9_init_31 (N := 27) (a0 := (27, .inl (fun _ => 0))) mw_X9_init_5 rfl 0 rfl (fun _ => rfl) (by decide) (by decide) (by decide) (Nat.le_of_ble_eq_true rfl) (Nat.le_of_ble_eq_true rfl) (fun q4 => ?_)
  show ww x [(a0, .inr (9, [.int 0, .ref q1, .int 0, .ref q2, .ref q3, .null, .null, .null, .null, .null, .int 0, .int 0, .null, .int 0, .null, .null, .null, .null, .int 0])), (q1, .inl (gJ (xg x), 60, .inr (.inl (fun _ => 0)))), (q2, .inl (gI (xg x), 27, .inl (fun _ => 0))), (q3, .inl (gI (xg x), 27, .inl (fun _ => 0))), (q4, .inl (gI (xg x), 27, .inl (fun _ => 0)))] [(0, .ref a0)] 4 141 33 [.ref q4, .ref a0]
  refine xw_putF hf (pc := 33) dX9_init_33 hin (T := TX9) mi_X9_init_X9 rfl tyX9_ok nmX9 0 rfl 5 (by decide) rfl mw_X9_init_8 rfl rfl rfl rfl rfl (Nat.le_of_ble_eq_true rfl) [(a0, .inr (9, [.int 0, .ref q1, .int 0, .ref q2, .ref q3, .ref q4, .null, .null, .null, .null, .int 0, .int 0, .null, .int 0, .null, .null, .null, .null, .int 0])), (q1, .inl (gJ (xg x), 60, .inr (.inl (fun _ => 0)))), (q2, .inl (gI (xg x), 27, .inl (fun _ => 0))), (q3, .inl (gI (xg x), 27, .inl (fun _ => 0))), (q4, .inl (gI (xg x), 27, .inl (fun _ => 0)))] rfl ?_
  refine xw_aload_n hf (pc := 36) dX9_init_36 rfl 0 rfl ?_
  refine xw_bipush hf (pc := 37) dX9_init_37 (v := 27) (by decide) ?_
  refine xw_newa hf (pc := 39) dX9_init_39 (N := 27) (a0 := (27, .inl (fun _ => 0))) mw_X9_init_5 rfl 0 rfl (fun _ => rfl) (by decide) (by decide) (by decide) (Nat.le_of_ble_eq_true rfl) (Nat.le_of_ble_eq_true rfl) (fun q5 => ?_)
  show ww x [(a0, .inr (9, [.int 0, .ref q1, .int 0, .ref q2, .ref q3, .ref q4, .null, .null, .null, .null, .int 0, .int 0, .null, .int 0, .null, .null, .null, .null, .int 0])), (q1, .inl (gJ (xg x), 60, .inr (.inl (fun _ => 0)))), (q2, .inl (gI (xg x), 27, .inl (fun _ => 0))), (q3, .inl (gI (xg x), 27, .inl (fun _ => 0))), (q4, .inl (gI (xg x), 27, .inl (fun _ => 0))), (q5, .inl (gI (xg x), 27, .inl (fun _ => 0)))] [(0, .ref a0)] 5 168 41 [.ref q5, .ref a0]
  refine xw_putF hf (pc := 41) dX9_init_41 hin (T := TX9) mi_X9_init_X9 rfl tyX9_ok nmX9 0 rfl 6 (by decide) rfl mw_X9_init_9 rfl rfl rfl rfl rfl (Nat.le_of_ble_eq_true rfl) [(a0, .inr (9, [.int 0, .ref q1, .int 0, .ref q2, .ref q3, .ref q4, .ref q5, .null, .null, .null, .int 0, .int 0, .null, .int 0, .null, .null, .null, .null, .int 0])), (q1, .inl (gJ (xg x), 60, .inr (.inl (fun _ => 0)))), (q2, .inl (gI (xg x), 27, .inl (fun _ => 0))), (q3, .inl (gI (xg x), 27, .inl (fun _ => 0))), (q4, .inl (gI (xg x), 27, .inl (fun _ => 0))), (q5, .inl (gI (xg x), 27, .inl (fun _ => 0)))] rfl ?_
  refine xw_aload_n hf (pc := 44) dX9_init_44 rfl 0 rfl ?_
  refine xw_bipush hf (pc := 45) dX9_init_45 (v := 64) (by decide) ?_
  refine xw_newa hf (pc := 47) dX9_init_47 (N := 64) (a0 := (64, .inr (.inl (fun _ => 0)))) mw_X9_init_3 rfl 1 rfl (fun _ => rfl) (by decide) (by decide) (by decide) (Nat.le_of_ble_eq_true rfl) (Nat.le_of_ble_eq_true rfl) (fun q6 => ?_)
  show ww x [(a0, .inr (9, [.int 0, .ref q1, .int 0, .ref q2, .ref q3, .ref q4, .ref q5, .null, .null, .null, .int 0, .int 0, .null, .int 0, .null, .null, .null, .null, .int 0])), (q1, .inl (gJ (xg x), 60, .inr (.inl (fun _ => 0)))), (q2, .inl (gI (xg x), 27, .inl (fun _ => 0))), (q3, .inl (gI (xg x), 27, .inl (fun _ => 0))), (q4, .inl (gI (xg x), 27, .inl (fun _ => 0))), (q5, .inl (gI (xg x), 27, .inl (fun _ => 0))), (q6, .inl (gJ (xg x), 64, .inr (.inl (fun _ => 0))))] [(0, .ref a0)] 6 232 49 [.ref q6, .ref a0]
  refine xw_put hf (pc := 49) dX9_init_49 (T := TX9) mi_X9_init_X9 rfl tyX9_ok nmX9 0 rfl 7 (by decide) rfl mw_X9_init_10 rfl rfl rfl rfl (Nat.le_of_ble_eq_true rfl) [(a0, .inr (9, [.int 0, .ref q1, .int 0, .ref q2, .ref q3, .ref q4, .ref q5, .ref q6, .null, .null, .int 0, .int 0, .null, .int 0, .null, .null, .null, .null, .int 0])), (q1, .inl (gJ (xg x), 60, .inr (.inl (fun _ => 0)))), (q2, .inl (gI (xg x), 27, .inl (fun _ => 0))), (q3, .inl (gI (xg x), 27, .inl (fun _ => 0))), (q4, .inl (gI (xg x), 27, .inl (fun _ => 0))), (q5, .inl (gI (xg x), 27, .inl (fun _ => 0))), (q6, .inl (gJ (xg x), 64, .inr (.inl (fun _ => 0))))] rfl ?_
  refine xw_aload_n hf (pc := 52) dX9_init_52 rfl 0 rfl ?_
  refine xw_bipush hf (pc := 53) dX9_init_53 (v := 64) (by decide) ?_
  refine xw_newa hf (pc := 55) dX9_init_55 (N := 64) (a0 := (64, .inl (fun _ => 0))) mw_X9_init_5 rfl 0 rfl (fun _ => rfl) (by decide) (by decide) (by decide) (Nat.le_of_ble_eq_true rfl) (Nat.le_of_ble_eq_true rfl) (fun q7 => ?_)
  show ww x [(a0, .inr (9, [.int 0, .ref q1, .int 0, .ref q2, .ref q3, .ref q4, .ref q5, .ref q6, .null, .null, .int 0, .int 0, .null, .int 0, .null, .null, .null, .null, .int 0])), (q1, .inl (gJ (xg x), 60, .inr (.inl (fun _ => 0)))), (q2, .inl (gI (xg x), 27, .inl (fun _ => 0))), (q3, .inl (gI (xg x), 27, .inl (fun _ => 0))), (q4, .inl (gI (xg x), 27, .inl (fun _ => 0))), (q5, .inl (gI (xg x), 27, .inl (fun _ => 0))), (q6, .inl (gJ (xg x), 64, .inr (.inl (fun _ => 0)))), (q7, .inl (gI (xg x), 64, .inl (fun _ => 0)))] [(0, .ref a0)] 7 296 57 [.ref q7, .ref a0]
  refine xw_put hf (pc := 57) dX9_init_57 (T := TX9) mi_X9_init_X9 rfl tyX9_ok nmX9 0 rfl 8 (by decide) rfl mw_X9_init_11 rfl rfl rfl rfl (Nat.le_of_ble_eq_true rfl) [(a0, .inr (9, [.int 0, .ref q1, .int 0, .ref q2, .ref q3, .ref q4, .ref q5, .ref q6, .ref q7, .null, .int 0, .int 0, .null, .int 0, .null, .null, .null, .null, .int 0])), (q1, .inl (gJ (xg x), 60, .inr (.inl (fun _ => 0)))), (q2, .inl (gI (xg x), 27, .inl (fun _ => 0))), (q3, .inl (gI (xg x), 27, .inl (fun _ => 0))), (q4, .inl (gI (xg x), 27, .inl (fun _ => 0))), (q5, .inl (gI (xg x), 27, .inl (fun _ => 0))), (q6, .inl (gJ (xg x), 64, .inr (.inl (fun _ => 0)))), (q7, .inl (gI (xg x), 64, .inl (fun _ => 0)))] rfl ?_
  refine xw_aload_n hf (pc := 60) dX9_init_60 rfl 0 rfl ?_
  refine xw_bipush hf (pc := 61) dX9_init_61 (v := 64) (by decide) ?_
  refine xw_newa hf (pc := 63) dX9_init_63 (N := 64) (a0 := (64, .inl (fun _ => 0))) mw_X9_init_12 rfl 2 rfl (fun _ => rfl) (by decide) (by decide) (by decide) (Nat.le_of_ble_eq_true rfl) (Nat.le_of_ble_eq_true rfl) (fun q8 => ?_)
  show ww x [(a0, .inr (9, [.int 0, .ref q1, .int 0, .ref q2, .ref q3, .ref q4, .ref q5, .ref q6, .ref q7, .null, .int 0, .int 0, .null, .int 0, .null, .null, .null, .null, .int 0])), (q1, .inl (gJ (xg x), 60, .inr (.inl (fun _ => 0)))), (q2, .inl (gI (xg x), 27, .inl (fun _ => 0))), (q3, .inl (gI (xg x), 27, .inl (fun _ => 0))), (q4, .inl (gI (xg x), 27, .inl (fun _ => 0))), (q5, .inl (gI (xg x), 27, .inl (fun _ => 0))), (q6, .inl (gJ (xg x), 64, .inr (.inl (fun _ => 0)))), (q7, .inl (gI (xg x), 64, .inl (fun _ => 0))), (q8, .inl (gZ (xg x), 64, .inl (fun _ => 0)))] [(0, .ref a0)] 8 360 65 [.ref q8, .ref a0]
  refine xw_put hf (pc := 65) dX9_init_65 (T := TX9) mi_X9_init_X9 rfl tyX9_ok nmX9 0 rfl 9 (by decide) rfl mw_X9_init_13 rfl rfl rfl rfl (Nat.le_of_ble_eq_true rfl) [(a0, .inr (9, [.int 0, .ref q1, .int 0, .ref q2, .ref q3, .ref q4, .ref q5, .ref q6, .ref q7, .ref q8, .int 0, .int 0, .null, .int 0, .null, .null, .null, .null, .int 0])), (q1, .inl (gJ (xg x), 60, .inr (.inl (fun _ => 0)))), (q2, .inl (gI (xg x), 27, .inl (fun _ => 0))), (q3, .inl (gI (xg x), 27, .inl (fun _ => 0))), (q4, .inl (gI (xg x), 27, .inl (fun _ => 0))), (q5, .inl (gI (xg x), 27, .inl (fun _ => 0))), (q6, .inl (gJ (xg x), 64, .inr (.inl (fun _ => 0)))), (q7, .inl (gI (xg x), 64, .inl (fun _ => 0))), (q8, .inl (gZ (xg x), 64, .inl (fun _ => 0)))] rfl ?_
  refine xw_aload_n hf (pc := 68) dX9_init_68 rfl 0 rfl ?_
  refine xw_bipush hf (pc := 69) dX9_init_69 (v := 12) (by decide) ?_
  refine xw_newa hf (pc := 71) dX9_init_71 (N := 12) (a0 := (12, .inl (fun _ => 0))) mw_X9_init_5 rfl 0 rfl (fun _ => rfl) (by decide) (by decide) (by decide) (Nat.le_of_ble_eq_true rfl) (Nat.le_of_ble_eq_true rfl) (fun q9 => ?_)
  show ww x [(a0, .inr (9, [.int 0, .ref q1, .int 0, .ref q2, .ref q3, .ref q4, .ref q5, .ref q6, .ref q7, .ref q8, .int 0, .int 0, .null, .int 0, .null, .null, .null, .null, .int 0])), (q1, .inl (gJ (xg x), 60, .inr (.inl (fun _ => 0)))), (q2, .inl (gI (xg x), 27, .inl (fun _ => 0))), (q3, .inl (gI (xg x), 27, .inl (fun _ => 0))), (q4, .inl (gI (xg x), 27, .inl (fun _ => 0))), (q5, .inl (gI (xg x), 27, .inl (fun _ => 0))), (q6, .inl (gJ (xg x), 64, .inr (.inl (fun _ => 0)))), (q7, .inl (gI (xg x), 64, .inl (fun _ => 0))), (q8, .inl (gZ (xg x), 64, .inl (fun _ => 0))), (q9, .inl (gI (xg x), 12, .inl (fun _ => 0)))] [(0, .ref a0)] 9 372 73 [.ref q9, .ref a0]
  refine xw_putF hf (pc := 73) dX9_init_73 hin (T := TX9) mi_X9_init_X9 rfl tyX9_ok nmX9 0 rfl 12 (by decide) rfl mw_X9_init_14 rfl rfl rfl rfl rfl (Nat.le_of_ble_eq_true rfl) [(a0, .inr (9, [.int 0, .ref q1, .int 0, .ref q2, .ref q3, .ref q4, .ref q5, .ref q6, .ref q7, .ref q8, .int 0, .int 0, .ref q9, .int 0, .null, .null, .null, .null, .int 0])), (q1, .inl (gJ (xg x), 60, .inr (.inl (fun _ => 0)))), (q2, .inl (gI (xg x), 27, .inl (fun _ => 0))), (q3, .inl (gI (xg x), 27, .inl (fun _ => 0))), (q4, .inl (gI (xg x), 27, .inl (fun _ => 0))), (q5, .inl (gI (xg x), 27, .inl (fun _ => 0))), (q6, .inl (gJ (xg x), 64, .inr (.inl (fun _ => 0)))), (q7, .inl (gI (xg x), 64, .inl (fun _ => 0))), (q8, .inl (gZ (xg x), 64, .inl (fun _ => 0))), (q9, .inl (gI (xg x), 12, .inl (fun _ => 0)))] rfl ?_
  refine xw_aload_n hf (pc := 76) dX9_init_76 rfl 0 rfl ?_
  refine xw_bipush hf (pc := 77) dX9_init_77 (v := 27) (by decide) ?_
  refine xw_newa hf (pc := 79) dX9_init_79 (N := 27) (a0 := (27, .inl (fun _ => 0))) mw_X9_init_5 rfl 0 rfl (fun _ => rfl) (by decide) (by decide) (by decide) (Nat.le_of_ble_eq_true rfl) (Nat.le_of_ble_eq_true rfl) (fun q10 => ?_)
  show ww x [(a0, .inr (9, [.int 0, .ref q1, .int 0, .ref q2, .ref q3, .ref q4, .ref q5, .ref q6, .ref q7, .ref q8, .int 0, .int 0, .ref q9, .int 0, .null, .null, .null, .null, .int 0])), (q1, .inl (gJ (xg x), 60, .inr (.inl (fun _ => 0)))), (q2, .inl (gI (xg x), 27, .inl (fun _ => 0))), (q3, .inl (gI (xg x), 27, .inl (fun _ => 0))), (q4, .inl (gI (xg x), 27, .inl (fun _ => 0))), (q5, .inl (gI (xg x), 27, .inl (fun _ => 0))), (q6, .inl (gJ (xg x), 64, .inr (.inl (fun _ => 0)))), (q7, .inl (gI (xg x), 64, .inl (fun _ => 0))), (q8, .inl (gZ (xg x), 64, .inl (fun _ => 0))), (q9, .inl (gI (xg x), 12, .inl (fun _ => 0))), (q10, .inl (gI (xg x), 27, .inl (fun _ => 0)))] [(0, .ref a0)] 10 399 81 [.ref q10, .ref a0]
  refine xw_putF hf (pc := 81) dX9_init_81 hin (T := TX9) mi_X9_init_X9 rfl tyX9_ok nmX9 0 rfl 14 (by decide) rfl mw_X9_init_15 rfl rfl rfl rfl rfl (Nat.le_of_ble_eq_true rfl) [(a0, .inr (9, [.int 0, .ref q1, .int 0, .ref q2, .ref q3, .ref q4, .ref q5, .ref q6, .ref q7, .ref q8, .int 0, .int 0, .ref q9, .int 0, .ref q10, .null, .null, .null, .int 0])), (q1, .inl (gJ (xg x), 60, .inr (.inl (fun _ => 0)))), (q2, .inl (gI (xg x), 27, .inl (fun _ => 0))), (q3, .inl (gI (xg x), 27, .inl (fun _ => 0))), (q4, .inl (gI (xg x), 27, .inl (fun _ => 0))), (q5, .inl (gI (xg x), 27, .inl (fun _ => 0))), (q6, .inl (gJ (xg x), 64, .inr (.inl (fun _ => 0)))), (q7, .inl (gI (xg x), 64, .inl (fun _ => 0))), (q8, .inl (gZ (xg x), 64, .inl (fun _ => 0))), (q9, .inl (gI (xg x), 12, .inl (fun _ => 0))), (q10, .inl (gI (xg x), 27, .inl (fun _ => 0)))] rfl ?_
  refine xw_aload_n hf (pc := 84) dX9_init_84 rfl 0 rfl ?_
  refine xw_bipush hf (pc := 85) dX9_init_85 (v := 27) (by decide) ?_
  refine xw_newa hf (pc := 87) dX9_init_87 (N := 27) (a0 := (27, .inl (fun _ => 0))) mw_X9_init_5 rfl 0 rfl (fun _ => rfl) (by decide) (by decide) (by decide) (Nat.le_of_ble_eq_true rfl) (Nat.le_of_ble_eq_true rfl) (fun q11 => ?_)
  show ww x [(a0, .inr (9, [.int 0, .ref q1, .int 0, .ref q2, .ref q3, .ref q4, .ref q5, .ref q6, .ref q7, .ref q8, .int 0, .int 0, .ref q9, .int 0, .ref q10, .null, .null, .null, .int 0])), (q1, .inl (gJ (xg x), 60, .inr (.inl (fun _ => 0)))), (q2, .inl (gI (xg x), 27, .inl (fun _ => 0))), (q3, .inl (gI (xg x), 27, .inl (fun _ => 0))), (q4, .inl (gI (xg x), 27, .inl (fun _ => 0))), (q5, .inl (gI (xg x), 27, .inl (fun _ => 0))), (q6, .inl (gJ (xg x), 64, .inr (.inl (fun _ => 0)))), (q7, .inl (gI (xg x), 64, .inl (fun _ => 0))), (q8, .inl (gZ (xg x), 64, .inl (fun _ => 0))), (q9, .inl (gI (xg x), 12, .inl (fun _ => 0))), (q10, .inl (gI (xg x), 27, .inl (fun _ => 0))), (q11, .inl (gI (xg x), 27, .inl (fun _ => 0)))] [(0, .ref a0)] 11 426 89 [.ref q11, .ref a0]
  refine xw_putF hf (pc := 89) dX9_init_89 hin (T := TX9) mi_X9_init_X9 rfl tyX9_ok nmX9 0 rfl 15 (by decide) rfl mw_X9_init_16 rfl rfl rfl rfl rfl (Nat.le_of_ble_eq_true rfl) [(a0, .inr (9, [.int 0, .ref q1, .int 0, .ref q2, .ref q3, .ref q4, .ref q5, .ref q6, .ref q7, .ref q8, .int 0, .int 0, .ref q9, .int 0, .ref q10, .ref q11, .null, .null, .int 0])), (q1, .inl (gJ (xg x), 60, .inr (.inl (fun _ => 0)))), (q2, .inl (gI (xg x), 27, .inl (fun _ => 0))), (q3, .inl (gI (xg x), 27, .inl (fun _ => 0))), (q4, .inl (gI (xg x), 27, .inl (fun _ => 0))), (q5, .inl (gI (xg x), 27, .inl (fun _ => 0))), (q6, .inl (gJ (xg x), 64, .inr (.inl (fun _ => 0)))), (q7, .inl (gI (xg x), 64, .inl (fun _ => 0))), (q8, .inl (gZ (xg x), 64, .inl (fun _ => 0))), (q9, .inl (gI (xg x), 12, .inl (fun _ => 0))), (q10, .inl (gI (xg x), 27, .inl (fun _ => 0))), (q11, .inl (gI (xg x), 27, .inl (fun _ => 0)))] rfl ?_
  refine xw_aload_n hf (pc := 92) dX9_init_92 rfl 0 rfl ?_
  refine xw_bipush hf (pc := 93) dX9_init_93 (v := 60) (by decide) ?_
  refine xw_newa hf (pc := 95) dX9_init_95 (N := 60) (a0 := (60, .inl (fun _ => 0))) mw_X9_init_5 rfl 0 rfl (fun _ => rfl) (by decide) (by decide) (by decide) (Nat.le_of_ble_eq_true rfl) (Nat.le_of_ble_eq_true rfl) (fun q12 => ?_)
  show ww x [(a0, .inr (9, [.int 0, .ref q1, .int 0, .ref q2, .ref q3, .ref q4, .ref q5, .ref q6, .ref q7, .ref q8, .int 0, .int 0, .ref q9, .int 0, .ref q10, .ref q11, .null, .null, .int 0])), (q1, .inl (gJ (xg x), 60, .inr (.inl (fun _ => 0)))), (q2, .inl (gI (xg x), 27, .inl (fun _ => 0))), (q3, .inl (gI (xg x), 27, .inl (fun _ => 0))), (q4, .inl (gI (xg x), 27, .inl (fun _ => 0))), (q5, .inl (gI (xg x), 27, .inl (fun _ => 0))), (q6, .inl (gJ (xg x), 64, .inr (.inl (fun _ => 0)))), (q7, .inl (gI (xg x), 64, .inl (fun _ => 0))), (q8, .inl (gZ (xg x), 64, .inl (fun _ => 0))), (q9, .inl (gI (xg x), 12, .inl (fun _ => 0))), (q10, .inl (gI (xg x), 27, .inl (fun _ => 0))), (q11, .inl (gI (xg x), 27, .inl (fun _ => 0))), (q12, .inl (gI (xg x), 60, .inl (fun _ => 0)))] [(0, .ref a0)] 12 486 97 [.ref q12, .ref a0]
  refine xw_putF hf (pc := 97) dX9_init_97 hin (T := TX9) mi_X9_init_X9 rfl tyX9_ok nmX9 0 rfl 16 (by decide) rfl mw_X9_init_17 rfl rfl rfl rfl rfl (Nat.le_of_ble_eq_true rfl) [(a0, .inr (9, [.int 0, .ref q1, .int 0, .ref q2, .ref q3, .ref q4, .ref q5, .ref q6, .ref q7, .ref q8, .int 0, .int 0, .ref q9, .int 0, .ref q10, .ref q11, .ref q12, .null, .int 0])), (q1, .inl (gJ (xg x), 60, .inr (.inl (fun _ => 0)))), (q2, .inl (gI (xg x), 27, .inl (fun _ => 0))), (q3, .inl (gI (xg x), 27, .inl (fun _ => 0))), (q4, .inl (gI (xg x), 27, .inl (fun _ => 0))), (q5, .inl (gI (xg x), 27, .inl (fun _ => 0))), (q6, .inl (gJ (xg x), 64, .inr (.inl (fun _ => 0)))), (q7, .inl (gI (xg x), 64, .inl (fun _ => 0))), (q8, .inl (gZ (xg x), 64, .inl (fun _ => 0))), (q9, .inl (gI (xg x), 12, .inl (fun _ => 0))), (q10, .inl (gI (xg x), 27, .inl (fun _ => 0))), (q11, .inl (gI (xg x), 27, .inl (fun _ => 0))), (q12, .inl (gI (xg x), 60, .inl (fun _ => 0)))] rfl ?_
  refine xw_aload_n hf (pc := 100) dX9_init_100 rfl 0 rfl ?_
  refine xw_iconst hf (pc := 101) dX9_init_101 (v := 3) (by decide) ?_
  refine xw_newa hf (pc := 102) dX9_init_102 (N := 3) (a0 := (3, .inl (fun _ => 0))) mw_X9_init_5 rfl 0 rfl (fun _ => rfl) (by decide) (by decide) (by decide) (Nat.le_of_ble_eq_true rfl) (Nat.le_of_ble_eq_true rfl) (fun q13 => ?_)
  show ww x [(a0, .inr (9, [.int 0, .ref q1, .int 0, .ref q2, .ref q3, .ref q4, .ref q5, .ref q6, .ref q7, .ref q8, .int 0, .int 0, .ref q9, .int 0, .ref q10, .ref q11, .ref q12, .null, .int 0])), (q1, .inl (gJ (xg x), 60, .inr (.inl (fun _ => 0)))), (q2, .inl (gI (xg x), 27, .inl (fun _ => 0))), (q3, .inl (gI (xg x), 27, .inl (fun _ => 0))), (q4, .inl (gI (xg x), 27, .inl (fun _ => 0))), (q5, .inl (gI (xg x), 27, .inl (fun _ => 0))), (q6, .inl (gJ (xg x), 64, .inr (.inl (fun _ => 0)))), (q7, .inl (gI (xg x), 64, .inl (fun _ => 0))), (q8, .inl (gZ (xg x), 64, .inl (fun _ => 0))), (q9, .inl (gI (xg x), 12, .inl (fun _ => 0))), (q10, .inl (gI (xg x), 27, .inl (fun _ => 0))), (q11, .inl (gI (xg x), 27, .inl (fun _ => 0))), (q12, .inl (gI (xg x), 60, .inl (fun _ => 0))), (q13, .inl (gI (xg x), 3, .inl (fun _ => 0)))] [(0, .ref a0)] 13 489 104 [.ref q13, .ref a0]
  refine xw_putF hf (pc := 104) dX9_init_104 hin (T := TX9) mi_X9_init_X9 rfl tyX9_ok nmX9 0 rfl 17 (by decide) rfl mw_X9_init_18 rfl rfl rfl rfl rfl (Nat.le_of_ble_eq_true rfl) [(a0, .inr (9, [.int 0, .ref q1, .int 0, .ref q2, .ref q3, .ref q4, .ref q5, .ref q6, .ref q7, .ref q8, .int 0, .int 0, .ref q9, .int 0, .ref q10, .ref q11, .ref q12, .ref q13, .int 0])), (q1, .inl (gJ (xg x), 60, .inr (.inl (fun _ => 0)))), (q2, .inl (gI (xg x), 27, .inl (fun _ => 0))), (q3, .inl (gI (xg x), 27, .inl (fun _ => 0))), (q4, .inl (gI (xg x), 27, .inl (fun _ => 0))), (q5, .inl (gI (xg x), 27, .inl (fun _ => 0))), (q6, .inl (gJ (xg x), 64, .inr (.inl (fun _ => 0)))), (q7, .inl (gI (xg x), 64, .inl (fun _ => 0))), (q8, .inl (gZ (xg x), 64, .inl (fun _ => 0))), (q9, .inl (gI (xg x), 12, .inl (fun _ => 0))), (q10, .inl (gI (xg x), 27, .inl (fun _ => 0))), (q11, .inl (gI (xg x), 27, .inl (fun _ => 0))), (q12, .inl (gI (xg x), 60, .inl (fun _ => 0))), (q13, .inl (gI (xg x), 3, .inl (fun _ => 0)))] rfl ?_
  refine xw_iconst hf (pc := 107) dX9_init_107 (v := 1) (by decide) ?_
  refine xw_istore_n hf (pc := 108) dX9_init_108 rfl [(1, .int 1), (0, .ref a0)] hn (by decide) rfl ?_
  refine xw_X (sb_of [0, 1, 2, 3, 4, 5, 6, 7, 8, 9, 10, 11, 12, 13] rfl rfl) (show ww x (W_X9_init (xg x) a0 q1 q2 q3 q4 q5 q9 q10 q11 q12 q13 0 0 0 0 0 0 (fun _ => 0) (fun _ => 0) (fun _ => 0) (fun _ => 0) (fun _ => 0) q6 64 (fun _ => 0) q7 64 (fun _ => 0) q8 64 (fun _ => 0) (fun _ => 0) (fun _ => 0) (fun _ => 0) (fun _ => 0) (fun _ => 0)) [(1, .int 1), (0, .ref a0)] 13 489 109 [] from ?_)
  refine xw_L [1, 0] rfl ?_
  refine w_X9_init_L109 hf hn ⟨(Nat.le_of_ble_eq_true rfl), (Nat.le_of_ble_eq_true rfl)⟩ a0 q1 q2 q3 q4 q5 q9 q10 q11 q12 q13 0 0 0 0 0 0 (fun _ => 0) (fun _ => 0) (fun _ => 0) (fun _ => 0) q6 64 (fun _ => 0) q7 64 (fun _ => 0) q8 64 (fun _ => 0) (fun _ => 0) (fun _ => 0) (fun _ => 0) (fun _ => 0) (fun _ => 0) FU _ _ h (fun w15 h => ?_)
  exact xw_vret hf (pc := 170) dX9_init_170 hr (Nat.le_of_ble_eq_true rfl) (Nat.le_of_ble_eq_true rfl) ⟨_, _, _, _, _, _, _, _, _, _, _, _, _, _, rfl, rfl, h⟩
