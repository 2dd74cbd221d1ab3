/-! the model orders the words that fit -/
def ordF (M W : List Nat) (f : Nat → Int32) : Prop := ∀ i x : Nat, W[i]? = some x → ∃ j : Nat, f i = nI j ∧ M[j]? = some x
def shI (f : Nat → Int32) (L j : Nat) : Nat → Int32 := fun x => if j < x ∧ x ≤ L then f (x - 1) else f x
theorem shI_s (f : Nat → Int32) {L k : Nat} (h : k + 1 ≤ L) : upd (shI f L (k + 1)) (k + 1) (shI f L (k + 1) k) = shI f L k := by
  funext x
  unfold upd shI
  by_cases hx : x = k + 1
  · subst hx
    rw [if_pos rfl, if_neg (by omega), if_pos (by omega)]
    rfl
  · rw [if_neg hx]
    by_cases h2 : k + 1 < x ∧ x ≤ L
    · rw [if_pos h2, if_pos (by omega)]
    · rw [if_neg h2, if_neg (by omega)]
theorem p_foL {v1 : Int32} {v6 : Nat → Int64} {M : List Nat} (hr : rowIs v1 v6 M) (hM : ∀ m ∈ M, isW m) {k w : Nat} (hk : M[k]? = some w) {W : List Nat} {f : Nat → Int32} (hO : ordF M W f) (h59 : W.length < 60) (hd : dicS W) (hne : ∀ x ∈ W, rk x ≠ rk w) {K : Int32 → (Nat → Int32) → Prop} (h : K (nI (plc W (rk w))) (shI f W.length (plc W (rk w)))) :
    ∀ m z fuel : Nat, z = plc W (rk w) + m → z ≤ W.length → m < fuel → P_X9_findOrder_L27 (nI W.length) (nI k) v6 K fuel (nI z) (shI f W.length z) := by
  obtain ⟨rfl, h60, hf6⟩ := id hr
  have hkl := (List.getElem?_eq_some_iff.mp hk).1
  have hww := hM w (List.mem_of_getElem? hk)
  have hrw := rk_lt hww.2.1
  -- what stands at a place of the order
  have look : ∀ y : Nat, y + 1 ≤ W.length → ∃ j x : Nat, shI f W.length (y + 1) y = nI j ∧ j < 60 ∧ M[j]? = some x ∧ W[y]? = some x := fun y hy => by
    have hy2 : W[y]? = some W[y] := List.getElem?_eq_getElem (by omega)
    obtain ⟨j, e1, e2⟩ := hO y _ hy2
    have := (List.getElem?_eq_some_iff.mp e2).1
    refine ⟨j, _, ?_, by omega, e2, hy2⟩
    unfold shI
    rw [if_neg (by omega)]
    exact e1
  intro m
  induction m with
  | zero =>
    intro z fuel hz hzl hf
    obtain ⟨g, rfl⟩ : ∃ g, fuel = g + 1 := ⟨fuel - 1, by omega⟩
    have e : z = plc W (rk w) := by omega
    rw [← e] at h
    unfold P_X9_findOrder_L27
    refine ⟨fun _ => h, fun c => ?_⟩
    have hz0 : ¬ z ≤ 0 := fun q => c ((nle (b := 0) (by omega) (by omega)).mpr q)
    obtain ⟨y, rfl⟩ : ∃ y, z = y + 1 := ⟨z - 1, by omega⟩
    obtain ⟨j, x, e1, e2, e3, e4⟩ := look y hzl
    have hwx := hM x (List.mem_of_getElem? e3)
    have hlt : rk x < rk w := plc_take (S := W) x (List.mem_of_getElem? (i := y) (by rw [List.getElem?_take_of_lt (by omega)]; exact e4))
    rw [nI_pred, nI_clamp (show y < 2 ^ 31 by omega), e1, nI_clamp (show j < 2 ^ 31 by omega), hf6 j x e3, nI_clamp (show k < 2 ^ 31 by omega), hf6 k w hk]
    refine ⟨nI_in (by omega) (by omega), nI_in (by omega) (by omega), p_xkey hwx.2.1 ⟨nI_in (by omega) (by omega), p_xkey hww.2.1 ⟨fun _ => h, fun q => absurd ((pk_lLE (by have := rk_lt hwx.2.1; omega) (by omega)).mpr (by omega)) q⟩⟩⟩
  | succ m ih =>
    intro z fuel hz hzl hf
    obtain ⟨g, rfl⟩ : ∃ g, fuel = g + 1 := ⟨fuel - 1, by omega⟩
    obtain ⟨y, rfl⟩ : ∃ y, z = y + 1 := ⟨z - 1, by omega⟩
    obtain ⟨j, x, e1, e2, e3, e4⟩ := look y hzl
    have hwx := hM x (List.mem_of_getElem? e3)
    have hmem : x ∈ W.drop (plc W (rk w)) := List.mem_of_getElem? (i := y - plc W (rk w)) (by rw [List.getElem?_drop, show plc W (rk w) + (y - plc W (rk w)) = y by omega]; exact e4)
    have hge := plc_drop (r := rk w) hd.2 x hmem
    have hn := hne x (List.mem_of_getElem? e4)
    unfold P_X9_findOrder_L27
    rw [nI_pred, pk_m1, nI_clamp (show y < 2 ^ 31 by omega), e1, nI_clamp (show j < 2 ^ 31 by omega), hf6 j x e3, nI_clamp (show k < 2 ^ 31 by omega), hf6 k w hk]
    refine ⟨fun q => absurd ((nle (b := 0) (by omega) (by omega)).mp q) (by omega), fun _ => ⟨nI_in (by omega) (by omega), nI_in (by omega) (by omega), p_xkey hwx.2.1 ⟨nI_in (by omega) (by omega), p_xkey hww.2.1 ⟨fun q => absurd ((pk_lLE (by have := rk_lt hwx.2.1; omega) (by omega)).mp q) (by omega), fun _ => ⟨nI_in (by omega) (by omega), nI_in (by omega) (by omega), ?_⟩⟩⟩⟩⟩
    rw [nI_clamp (show y + 1 < 2 ^ 31 by omega), ← e1, shI_s f hzl]
    exact ih y g (by omega) (by omega) (by omega)
theorem ordF_ins {M W : List Nat} {f : Nat → Int32} (hO : ordF M W f) {p k w : Nat} (hp : p ≤ W.length) (hk : M[k]? = some w) : ordF M (insAt W p w) (upd (shI f W.length p) p (nI k)) := by
  intro i x hi
  unfold insAt at hi
  have hlt : (W.take p).length = p := by rw [List.length_take]; omega
  unfold upd shI
  by_cases h1 : i = p
  · subst h1
    rw [List.getElem?_append_right (by omega), hlt, Nat.sub_self] at hi
    have e := Option.some.inj hi
    rw [if_pos rfl]
    exact ⟨k, rfl, by rw [← e]; exact hk⟩
  · rw [if_neg h1]
    by_cases h2 : i < p
    · rw [List.getElem?_append_left (by omega), List.getElem?_take_of_lt h2] at hi
      rw [if_neg (by omega)]
      exact hO i x hi
    · rw [List.getElem?_append_right (by omega), hlt] at hi
      obtain ⟨y, hy⟩ : ∃ y, i - p = y + 1 := ⟨i - p - 1, by omega⟩
      rw [hy, List.getElem?_cons_succ, List.getElem?_drop] at hi
      have hl := (List.getElem?_eq_some_iff.mp hi).1
      rw [if_pos (by omega)]
      have e : p + y = i - 1 := by omega
      rw [e] at hi
      exact hO (i - 1) x hi
theorem ins_perm (W : List Nat) (p w : Nat) : (insAt W p w).Perm (w :: W) := by
  have h : (W.take p ++ w :: W.drop p).Perm (w :: (W.take p ++ W.drop p)) := List.perm_middle
  rw [List.take_append_drop] at h
  exact h
theorem p_foM {v1 : Int32} {v6 : Nat → Int64} {S M : List Nat} (hr : rowIs v1 v6 M) (hd : dRel S M) {n : Nat} (hn : n < 32 ^ 12) {co : Nat → Int32} (hco : ∀ l : Nat, l ≤ 26 → co l = nI (cnt n l)) {v0 v2 v3 v4 v5 : Int32} {K : Int32 → (Nat → Int32) → Prop}
    (h : ∀ f, ordF M (S.filter (fitsB n)) f → K (nI (S.filter (fitsB n)).length) f) :
    ∀ (T : List Nat) (k fuel : Nat) (W : List Nat) (v8 : Nat → Int32), M.drop k = T → k ≤ M.length → T.length < fuel → W.Perm ((M.take k).filter (fitsB n)) → dicS W → ordF M W v8 → P_X9_findOrder_L4 v0 v1 v2 v3 v4 v5 v6 co K fuel (nI W.length) (nI k) v8 := by
  obtain ⟨rfl, h60, hf6⟩ := id hr
  have hM := dRel_W hd
  have hMn : M.Nodup := (dic_nodup hd.1).perm hd.2.symm
  intro T
  induction T with
  | nil =>
    intro k fuel W v8 hdr hk hf hp hdW hO
    obtain ⟨g, rfl⟩ : ∃ g, fuel = g + 1 := ⟨fuel - 1, by simp at hf; omega⟩
    rw [List.take_of_length_le (drop_nil hdr)] at hp
    have hp2 : W.Perm (S.filter (fitsB n)) := hp.trans (hd.2.filter _)
    have e : W = S.filter (fitsB n) := hp2.eq_of_pairwise (le := fun a b => rk a < rk b) (fun a b _ _ h1 h2 => by omega) hdW.2 (hd.1.2.filter _)
    unfold P_X9_findOrder_L4
    refine ⟨fun _ => ?_, fun z => absurd (nI_le (drop_nil hdr) (by omega)) z⟩
    subst e
    exact h v8 hO
  | cons w T ih =>
    intro k fuel W v8 hdr hk hf hp hdW hO
    obtain ⟨g, rfl⟩ : ∃ g, fuel = g + 1 := ⟨fuel - 1, by simp at hf; omega⟩
    obtain ⟨hai, hd2⟩ := drop_at hdr
    have hil := (List.getElem?_eq_some_iff.mp hai).1
    have hww := hM w (List.mem_of_getElem? hai)
    have hf2 : T.length < g := by simp at hf; omega
    have et : M.take (k + 1) = M.take k ++ [w] := by rw [List.take_add_one, hai]; rfl
    have hWk : W.length ≤ k := by
      rw [hp.length_eq]
      have a := List.length_filter_le (fitsB n) (M.take k)
      rw [List.length_take] at a
      omega
    unfold P_X9_findOrder_L4
    rw [nI_clamp (show k < 2 ^ 31 by omega), hf6 k w hai, ← nI_succ, ← nI_succ]
    refine ⟨fun z => absurd z (nI_ge hil (by omega)), fun _ => ⟨nI_in (by omega) (by omega), p_xfits hn hww hco (fun hb => ⟨fun z => absurd z (by decide), fun _ => ?_⟩) (fun hb => ⟨fun _ => ?_, fun z => absurd rfl z⟩)⟩⟩
    · have hnM : w ∉ W := fun hm => by
        have h1 := (List.mem_filter.mp (hp.mem_iff.mp hm)).1
        have es : M.take k ++ (w :: T) = M := by rw [← hdr]; exact List.take_append_drop _ _
        have h2 : (M.take k ++ (w :: T)).Nodup := by rw [es]; exact hMn
        exact (List.pairwise_append.mp h2).2.2 w h1 w List.mem_cons_self rfl
      have hne : ∀ x ∈ W, rk x ≠ rk w := fun x hx e => by
        have e2 := rk_inj (hdW.1 x hx) hww e
        rw [e2] at hx
        exact hnM hx
      have hpl := plc_le W (rk w)
      have e0 : shI v8 W.length W.length = v8 := by
        funext x
        unfold shI
        rw [if_neg (by omega)]
      have key := p_foL hr hM hai hO (by omega) hdW hne (K := fun (x4 : Int32) (w5 : Nat → Int32) => vp_in x4 60 ∧ P_X9_findOrder_L4 v0 (nI M.length) v2 v3 v4 v5 v6 co K g (nI (W.length + 1)) (nI (k + 1)) (upd w5 x4.toNatClampNeg (nI k)))
        ⟨nI_in (by omega) (by omega), by
          rw [nI_clamp (by omega), show W.length + 1 = (insS W w).length from (insS_len W w).symm]
          refine ih (k + 1) g (insS W w) _ hd2 (by omega) hf2 ?_ (dicS_ins hdW hww hnM) (ordF_ins hO hpl hai)
          rw [et, List.filter_append]
          have ef : [w].filter (fitsB n) = [w] := by rw [List.filter_cons, hb]; rfl
          rw [ef]
          exact ((ins_perm W _ w).trans (hp.cons w)).trans (List.perm_append_singleton w _).symm⟩ (W.length - plc W (rk w)) W.length FU (by omega) (Nat.le_refl _) (FU_s _ (by omega))
      rw [e0] at key
      exact key
    · refine ih (k + 1) g W v8 hd2 (by omega) hf2 ?_ hdW hO
      rw [et, List.filter_append]
      have ef : [w].filter (fitsB n) = [] := by rw [List.filter_cons, hb]; rfl
      rw [ef, List.append_nil]
      exact hp
theorem p_xorder {v1 : Int32} {v6 : Nat → Int64} {S M : List Nat} (hr : rowIs v1 v6 M) (hd : dRel S M) {n : Nat} (hn : n < 32 ^ 12) {co : Nat → Int32} (hco : ∀ l : Nat, l ≤ 26 → co l = nI (cnt n l)) {v0 v2 v3 v4 v5 : Int32} {v8 : Nat → Int32} {post : Int32 → (Nat → Int32) → Prop}
    (h : ∀ f, ordF M (S.filter (fitsB n)) f → post (nI (S.filter (fitsB n)).length) f) : P_X9_findOrder post v0 v1 v2 v3 v4 v5 v6 co v8 := by
  have h60 := hr.2.1
  have key := p_foM hr hd hn hco (v0 := v0) (v2 := v2) (v3 := v3) (v4 := v4) (v5 := v5) (K := fun (x6 : Int32) (w7 : Nat → Int32) => post x6 w7) h M 0 FU [] v8 rfl (Nat.zero_le _) (FU_s _ (by omega)) (by simp) ⟨fun m hm => absurd hm List.not_mem_nil, List.Pairwise.nil⟩ (fun i x hi => by simp at hi)
  have e : nI ([] : List Nat).length = 0 := nI_0
  rw [e, nI_0] at key
  exact key
theorem fit_ask {S : List Nat} (n : Nat) : S.filter (askB n 1) = S.filter (fitsB n) := filter_ext fun m _ => by
  unfold askB
  simp
