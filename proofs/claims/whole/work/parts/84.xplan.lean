/-! the model's planner -/
theorem p_xadL {K : (Nat → Int32) → Prop} : ∀ (m r fuel : Nat) (v : Nat → Int32), r < 2 ^ 63 → wlen r = m → m < fuel → allOk r → (∀ v', (∀ l : Nat, v' l = v l + nI (cnt r l)) → K v') → P_X9_addLetters_L16 K fuel (lN r) v := by
  intro m
  induction m with
  | zero =>
    intro r fuel v hr hw hf ha h
    obtain ⟨g, rfl⟩ : ∃ g, fuel = g + 1 := ⟨fuel - 1, by omega⟩
    have e := wlen_0iff.mp hw
    subst e
    unfold P_X9_addLetters_L16
    refine ⟨fun _ => h v fun l => ?_, fun q => absurd (show lN 0 ≤ 0 by decide) q⟩
    show v l = v l + nI 0
    rw [nI_0, Int32.add_zero]
  | succ m ih =>
    intro r fuel v hr hw hf ha h
    obtain ⟨g, rfl⟩ : ∃ g, fuel = g + 1 := ⟨fuel - 1, by omega⟩
    have e : r ≠ 0 := fun q => by rw [wlen_0iff.mpr q] at hw; omega
    have hs := wlen_step e (Nat.lt_trans hr (by decide))
    have ⟨⟨a1, a2⟩, a3⟩ := (allOk_s e hr).mp ha
    unfold P_X9_addLetters_L16
    rw [sshrN hr, lowN, nI_clamp (show r % 32 < 2 ^ 31 by omega)]
    refine ⟨fun q => absurd ((lN_le0 hr).mp q) e, fun _ => ⟨nI_in (by omega) (by omega), nI_in (by omega) (by omega), fun y hy => ?_⟩⟩
    rw [hy]
    refine ih (r / 32) g _ (by omega) (by omega) (by omega) a3 (fun v' hv' => h v' fun l => ?_)
    rw [hv' l, cnt_s e hr l]
    unfold upd
    by_cases q : l = r % 32
    · rw [if_pos q, if_pos q.symm, Nat.add_comm 1, nI_succ, q, Int32.add_assoc, Int32.add_comm 1]
    · rw [if_neg q, if_neg (fun z => q z.symm), Nat.zero_add]
/-- a place of the model's dictionary, or none -/
def plc1 (M : List Nat) (p : Int32) (L : List Nat) : Prop := (p = -1 ∧ L = []) ∨ ∃ j w : Nat, p = nI j ∧ j < 60 ∧ M[j]? = some w ∧ L = [w]
section XP
variable {v1 : Int32} {v6 : Nat → Int64} {M : List Nat}
theorem p_xadl (hr : rowIs v1 v6 M) (hM : ∀ m ∈ M, isW m) {p : Int32} {L : List Nat} (hp : plc1 M p L) {v0 v2 v3 v4 v5 : Int32} {v7 : Nat → Int32} {post : (Nat → Int32) → Prop} (h : ∀ v', (∀ l : Nat, v' l = v7 l + nI (cntS L l)) → post v') : P_X9_addLetters post p v0 v1 v2 v3 v4 v5 v6 v7 := by
  rcases hp with ⟨rfl, rfl⟩ | ⟨j, w, rfl, hj, hw, rfl⟩
  · refine ⟨fun _ => ?_, fun q => absurd rfl q⟩
    have key := p_xadL (K := fun (w2 : Nat → Int32) => post w2) 0 0 FU v7 (by decide) rfl (FU_s _ (by omega)) allOk_0 (fun v' hv' => h v' hv')
    exact key
  · have hww := hM w (List.mem_of_getElem? hw)
    have h63 : w < 2 ^ 63 := Nat.lt_trans hww.2.1 (by decide)
    refine ⟨fun q => absurd q (nI_m1 (by omega)), fun _ => ⟨nI_in hj (by omega), fun y hy => ?_⟩⟩
    rw [nI_clamp (by omega), hr.2.2 j w hw] at hy
    rw [hy]
    exact p_xadL (K := fun (w4 : Nat → Int32) => post w4) (wlen w) w FU v7 h63 rfl (Nat.lt_of_le_of_lt (wlen_le13 h63) (by decide)) hww.2.2 (fun v' hv' => h v' fun l => hv' l)
theorem p_xlat (hr : rowIs v1 v6 M) (hM : ∀ m ∈ M, isW m) {p : Int32} {L : List Nat} (hp : plc1 M p L) {v0 v2 v3 v4 v5 : Int32} {post : Int32 → Prop} (h : post (nI (lenS L))) : P_X9_lengthAt post p v0 v1 v2 v3 v4 v5 v6 := by
  rcases hp with ⟨rfl, rfl⟩ | ⟨j, w, rfl, hj, hw, rfl⟩
  · exact ⟨fun _ => h, fun q => absurd rfl q⟩
  · have hww := hM w (List.mem_of_getElem? hw)
    have h63 : w < 2 ^ 63 := Nat.lt_trans hww.2.1 (by decide)
    refine ⟨fun q => absurd q (nI_m1 (by omega)), fun _ => ⟨nI_in hj (by omega), ?_⟩⟩
    rw [nI_clamp (by omega), hr.2.2 j w hw]
    exact p_xlen h63 h
theorem p_xcc3 {z1 z2 z3 : Int32} {v : Nat → Int32} {K : (Nat → Int32) → Prop} (h : K (clr1 v 27)) : ∀ m i fuel : Nat, i + m = 27 → 1 ≤ i → m < fuel → P_X9_canCut_L3 z1 z2 z3 K fuel (nI i) (clr1 v i) := by
  intro m
  induction m with
  | zero =>
    intro i fuel hi h1 hf
    obtain ⟨g, rfl⟩ : ∃ g, fuel = g + 1 := ⟨fuel - 1, by omega⟩
    have e : i = 27 := by omega
    subst e
    unfold P_X9_canCut_L3
    exact ⟨fun _ => h, fun q => absurd (nI_lt (a := 26) (b := 27) (by omega) (by omega)) q⟩
  | succ m ih =>
    intro i fuel hi h1 hf
    obtain ⟨g, rfl⟩ : ∃ g, fuel = g + 1 := ⟨fuel - 1, by omega⟩
    unfold P_X9_canCut_L3
    refine ⟨fun q => absurd q (nI_nlt (a := 26) (by omega) (by omega)), fun _ => ⟨nI_in (by omega) (by omega), ?_⟩⟩
    rw [nI_clamp (by omega), ← nI_succ]
    have e : upd (clr1 v i) i 0 = clr1 v (i + 1) := by
      funext l
      unfold upd clr1
      by_cases hx : l = i
      · rw [if_pos hx, if_pos (by omega)]
      · rw [if_neg hx]
        by_cases h2 : 1 ≤ l ∧ l < i
        · rw [if_pos h2, if_pos (by omega)]
        · rw [if_neg h2, if_neg (by omega)]
    rw [e]
    exact ih (i + 1) g (by omega) (by omega) (by omega)
theorem p_xcc4 {n : Nat} {c : List Nat} {co w : Nat → Int32} (hn : n < 32 ^ 12) (hco : ∀ l : Nat, l ≤ 26 → co l = nI (cnt n l)) (hw : ∀ l : Nat, 1 ≤ l → l ≤ 26 → w l = nI (cntS c l)) (hc : ∀ l : Nat, cntS c l ≤ 100) {K : Int32 → Prop} :
    ∀ m k fuel : Nat, k + m = 26 → m < fuel → (K 0 → P_X9_canCut_L45 co w K fuel 0 (nI (k + 1))) ∧ ((∀ l : Nat, 1 ≤ l → l ≤ k → cntS c l ≤ cnt n l) → (fitC n c = true → K 1) → (fitC n c = false → K 0) → P_X9_canCut_L45 co w K fuel 1 (nI (k + 1))) := by
  intro m
  induction m with
  | zero =>
    intro k fuel hk hf
    obtain ⟨g, rfl⟩ : ∃ g, fuel = g + 1 := ⟨fuel - 1, by omega⟩
    have e : k = 26 := by omega
    subst e
    have hh : (26 : Int32) < nI (26 + 1) := nI_lt (a := 26) (b := 27) (by omega) (by omega)
    unfold P_X9_canCut_L45
    exact ⟨fun h => ⟨fun _ => h, fun q => absurd hh q⟩, fun a b _ => ⟨fun _ => b (fitC_iff.mpr a), fun q => absurd hh q⟩⟩
  | succ m ih =>
    intro k fuel hk hf
    obtain ⟨g, rfl⟩ : ∃ g, fuel = g + 1 := ⟨fuel - 1, by omega⟩
    have hh : ¬ (26 : Int32) < nI (k + 1) := nI_nlt (a := 26) (by omega) (by omega)
    have ⟨i0, i1⟩ := ih (k + 1) g (by omega) (by omega)
    have hin : vp_in (nI (k + 1)) 27 := nI_in (by omega) (by omega)
    have hcl := cnt_le hn (k + 1)
    have hc1 := hc (k + 1)
    unfold P_X9_canCut_L45
    rw [nI_clamp (show k + 1 < 2 ^ 31 by omega), hco _ (by omega), hw _ (by omega) (by omega), ← nI_succ]
    refine ⟨fun h => ⟨fun q => absurd q hh, fun _ => ⟨fun _ => i0 h, fun q => absurd rfl q⟩⟩, fun a b d => ⟨fun q => absurd q hh, fun _ => ⟨fun q => absurd q (by decide), fun _ => ⟨hin, hin, fun q => i0 (d ?_), fun q => i1 (fun l p1 p2 => ?_) b d⟩⟩⟩⟩
    · have q' := (nlt (by omega) (by omega)).mp q
      cases hb : fitC n c with
      | false => rfl
      | true => exact absurd (fitC_iff.mp hb (k + 1) (by omega) (by omega)) (by omega)
    · have q' : ¬ cnt n (k + 1) < cntS c (k + 1) := fun z => q ((nlt (by omega) (by omega)).mpr z)
      by_cases e : l = k + 1
      · rw [e]; omega
      · exact a l p1 (by omega)
theorem cntS_le : ∀ c : List Nat, (∀ w ∈ c, isW w) → ∀ l : Nat, cntS c l ≤ 12 * c.length
  | [], _, _ => Nat.zero_le _
  | w :: c, h, l => by
    have a := cnt_le (h w List.mem_cons_self).2.1 l
    have b := cntS_le c (fun x hx => h x (List.mem_cons_of_mem _ hx)) l
    show cnt w l + cntS c l ≤ 12 * (c.length + 1)
    omega
theorem plc1_W (hM : ∀ m ∈ M, isW m) {p : Int32} {L : List Nat} (hp : plc1 M p L) : (∀ w ∈ L, isW w) ∧ L.length ≤ 1 := by
  rcases hp with ⟨-, rfl⟩ | ⟨j, w, -, -, hw, rfl⟩
  · exact ⟨fun w hw => absurd hw List.not_mem_nil, Nat.zero_le _⟩
  · exact ⟨fun x hx => by rw [List.mem_singleton.mp hx]; exact hM w (List.mem_of_getElem? hw), Nat.le_refl _⟩
theorem p_xcan (hr : rowIs v1 v6 M) (hM : ∀ m ∈ M, isW m) {n : Nat} (hn : n < 32 ^ 12) {co : Nat → Int32} (hco : ∀ l : Nat, l ≤ 26 → co l = nI (cnt n l)) {p2 p3 p4 : Int32} {L1 L2 L3 : List Nat} (h1 : plc1 M p2 L1) (h2 : plc1 M p3 L2) (h3 : plc1 M p4 L3) {v0 v2 v3 v4 v5 : Int32} {v8 : Nat → Int32} {post : Int32 → (Nat → Int32) → Prop}
    (y : fitC n (L1 ++ L2 ++ L3) = true → ∀ w, post 1 w) (z : fitC n (L1 ++ L2 ++ L3) = false → ∀ w, post 0 w) : P_X9_canCut post p2 p3 p4 v0 v1 v2 v3 v4 v5 v6 co v8 := by
  have hW : ∀ w ∈ L1 ++ L2 ++ L3, isW w := fun w hw => by
    rcases List.mem_append.mp hw with a | a
    · rcases List.mem_append.mp a with b | b
      · exact (plc1_W hM h1).1 w b
      · exact (plc1_W hM h2).1 w b
    · exact (plc1_W hM h3).1 w a
  have hL : (L1 ++ L2 ++ L3).length ≤ 3 := by
    rw [List.length_append, List.length_append]
    have a := (plc1_W hM h1).2
    have b := (plc1_W hM h2).2
    have c := (plc1_W hM h3).2
    omega
  have e0 : clr1 v8 1 = v8 := by
    funext l
    unfold clr1
    rw [if_neg (by omega)]
  have key := p_xcc3 (z1 := p2) (z2 := p3) (z3 := p4) (v := v8) (K := fun (w1 : Nat → Int32) => P_X9_addLetters (fun (w3 : Nat → Int32) => P_X9_addLetters (fun (w5 : Nat → Int32) => P_X9_addLetters (fun (w7 : Nat → Int32) => P_X9_canCut_L45 co w7 (fun (x8 : Int32) => narrow .boolean (.int x8) = .int x8 ∧ post x8 w7) FU 1 1) p4 v0 v1 v2 v3 v4 v5 v6 w5) p3 v0 v1 v2 v3 v4 v5 v6 w3) p2 v0 v1 v2 v3 v4 v5 v6 w1)
    (p_xadl hr hM h1 (fun w3 e3 => p_xadl hr hM h2 (fun w5 e5 => p_xadl hr hM h3 (fun w7 e7 => by
      have hw7 : ∀ l : Nat, 1 ≤ l → l ≤ 26 → w7 l = nI (cntS (L1 ++ L2 ++ L3) l) := fun l a b => by
        have ec : clr1 v8 27 l = 0 := if_pos ⟨a, by omega⟩
        rw [e7 l, e5 l, e3 l, ec, Int32.zero_add, nI_add, nI_add, cntS_app, cntS_app]
      exact (p_xcc4 hn hco hw7 (fun l => by have := cntS_le _ hW l; omega) (K := fun (x8 : Int32) => narrow .boolean (.int x8) = .int x8 ∧ post x8 w7) 26 0 FU rfl (FU_s _ (by omega))).2 (fun l a b => absurd a (by omega)) (fun q => ⟨rfl, y q w7⟩) (fun q => ⟨rfl, z q w7⟩))))) 26 1 FU rfl (by omega) (FU_s _ (by omega))
  rw [e0] at key
  exact key
/-- the plan that is kept -/
def plaF (M P : List Nat) (f : Nat → Int32) : Prop := ∀ k w : Nat, P[k]? = some w → ∃ j : Nat, f k = nI j ∧ M[j]? = some w
theorem p_xkeep (hr : rowIs v1 v6 M) (hM : ∀ m ∈ M, isW m) {n : Nat} (hw : isW n) {co : Nat → Int32} (hco : ∀ l : Nat, l ≤ 26 → co l = nI (cnt n l)) {p2 p3 p4 : Int32} {j1 w1 : Nat} {L2 L3 : List Nat} (e1 : p2 = nI j1) (hj : M[j1]? = some w1) (h2 : plc1 M p3 L2) (h3 : plc1 M p4 L3) (h23 : L2 = [] → L3 = []) {s : List Nat × Nat} (hs : s.2 ≤ 36) {v0 v2 v3 v5 : Int32} {v8 v9 : Nat → Int32} (hv5 : v5 = nI s.1.length) (hv9 : plaF M s.1 v9) {post : Int32 → Int32 → (Nat → Int32) → (Nat → Int32) → Prop}
    (h : ∀ v5' v8' v9', v5' = nI (stp n s ([w1] ++ L2 ++ L3)).1.length → plaF M (stp n s ([w1] ++ L2 ++ L3)).1 v9' → post (nI (stp n s ([w1] ++ L2 ++ L3)).2) v5' v8' v9') : P_X9_keep post (nI s.2) p2 p3 p4 v0 v1 v2 v3 (nI (wlen n)) v5 v6 co v8 v9 := by
  have hj60 : j1 < 60 := by have := (List.getElem?_eq_some_iff.mp hj).1; have := hr.2.1; omega
  have h1 : plc1 M p2 [w1] := Or.inr ⟨j1, w1, e1, hj60, hj, rfl⟩
  have hW : ∀ w ∈ [w1] ++ L2 ++ L3, isW w := fun w hw => by
    rcases List.mem_append.mp hw with a | a
    · rcases List.mem_append.mp a with b | b
      · exact (plc1_W hM h1).1 w b
      · exact (plc1_W hM h2).1 w b
    · exact (plc1_W hM h3).1 w a
  have hL : ([w1] ++ L2 ++ L3).length ≤ 3 := by
    rw [List.length_append, List.length_append]
    have a := (plc1_W hM h1).2
    have b := (plc1_W hM h2).2
    have c := (plc1_W hM h3).2
    omega
  have hlen : lenS ([w1] ++ L2 ++ L3) ≤ 36 := by
    have a := lenS_le (lg := 12) ([w1] ++ L2 ++ L3) (fun w hw => isW_len (hW w hw))
    omega
  have hl := isW_len hw
  refine p_xlat hr hM h1 (p_xlat hr hM h2 (p_xlat hr hM h3 (fun y4 hy4 => ?_)))
  rw [nI_add, nI_add, ← lenS_app, ← lenS_app] at hy4
  have keepS : ¬ (s.2 < lenS ([w1] ++ L2 ++ L3) ∧ fitC n ([w1] ++ L2 ++ L3) = true) → ∀ v8', post (nI s.2) v5 v8' v9 := fun q v8' => by
    have e : stp n s ([w1] ++ L2 ++ L3) = s := if_neg q
    rw [e] at h
    exact h v5 v8' v9 hv5 hv9
  refine ⟨fun q => keepS (fun z => ?_) _, fun q => ⟨fun q2 => keepS (fun z => ?_) _, fun q2 => p_xcan hr hM hw.2.1 hco h1 h2 h3 (fun hb w => ⟨fun z => absurd z (by decide), fun _ => ⟨nI_in (c := 0) (by omega) (by omega), nI_in (c := 1) (by omega) (by omega), nI_in (c := 2) (by omega) (by omega), ?_⟩⟩) (fun hb w => ⟨fun _ => keepS (fun z => by rw [hb] at z; exact absurd z.2 (by decide)) _, fun z => absurd rfl z⟩)⟩⟩
  · rw [hy4] at q
    have := (nle (by omega) (by omega)).mp q
    omega
  · rw [hy4] at q2
    have a := (nlt (by omega) (by omega)).mp q2
    have b := fitC_len hW z.2
    omega
  · rw [hy4] at q
    have q' : ¬ lenS ([w1] ++ L2 ++ L3) ≤ s.2 := fun z => q ((nle (by omega) (by omega)).mpr z)
    have es : stp n s ([w1] ++ L2 ++ L3) = ([w1] ++ L2 ++ L3, lenS ([w1] ++ L2 ++ L3)) := if_pos ⟨by omega, hb⟩
    rw [es] at h
    rw [hy4]
    have c0 : (0 : Int32).toNatClampNeg = 0 := rfl
    have c1 : (1 : Int32).toNatClampNeg = 1 := rfl
    have c2 : (2 : Int32).toNatClampNeg = 2 := rfl
    have n1 : ¬ p2 = -1 := by rw [e1]; exact nI_m1 (by omega)
    refine ⟨fun z => absurd z n1, fun _ => ?_⟩
    rw [c0, c1, c2]
    rcases h2 with ⟨e2, f2⟩ | ⟨j2, w2, e2, b2, m2, f2⟩
    · have f3 := h23 f2
      have e3 : p4 = -1 := by
        rcases h3 with ⟨z, -⟩ | ⟨j3, w3, -, -, -, z⟩
        · exact z
        · rw [f3] at z; cases z
      subst f2
      subst f3
      refine ⟨fun _ => ⟨fun _ => h _ _ _ rfl (fun k w hk => ?_), fun z => absurd e3 z⟩, fun z => absurd e2 z⟩
      match k, hk with
      | 0, hk => exact ⟨j1, e1, by rw [hj]; exact hk⟩
      | k + 1, hk => simp at hk
    · have n2 : ¬ p3 = -1 := by rw [e2]; exact nI_m1 (by omega)
      rcases h3 with ⟨e3, f3⟩ | ⟨j3, w3, e3, b3, m3, f3⟩
      · subst f2
        subst f3
        refine ⟨fun z => absurd z n2, fun _ => ⟨fun _ => h _ _ _ rfl (fun k w hk => ?_), fun z => absurd e3 z⟩⟩
        match k, hk with
        | 0, hk => exact ⟨j1, e1, by rw [hj]; exact hk⟩
        | 1, hk => exact ⟨j2, e2, by rw [m2]; exact hk⟩
        | k + 2, hk => simp at hk
      · have n3 : ¬ p4 = -1 := by rw [e3]; exact nI_m1 (by omega)
        subst f2
        subst f3
        refine ⟨fun z => absurd z n2, fun _ => ⟨fun z => absurd z n3, fun _ => h _ _ _ rfl (fun k w hk => ?_)⟩⟩
        match k, hk with
        | 0, hk => exact ⟨j1, e1, by rw [hj]; exact hk⟩
        | 1, hk => exact ⟨j2, e2, by rw [m2]; exact hk⟩
        | 2, hk => exact ⟨j3, e3, by rw [m3]; exact hk⟩
        | k + 3, hk => simp at hk
end XP
