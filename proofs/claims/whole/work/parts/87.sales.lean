/-! pieces by the letters of a spelt word; taking back -/
def addR (v : Nat → Int32) (n k : Nat) : Nat → Int32 := fun l => v l + nI (cntR n (wlen n) k l)
theorem addR_0 (v : Nat → Int32) (n : Nat) : addR v n 0 = v := by
  funext l
  show v l + nI 0 = v l
  rw [nI_0, Int32.add_zero]
theorem tkF_0 (v : Nat → Int32) (n : Nat) : tkF v n 0 = v := by
  funext l
  show v l - nI 0 = v l
  rw [nI_0, Int32.sub_zero]
theorem addR_s (v : Nat → Int32) (n k : Nat) : upd (addR v n k) (dg n (wlen n - 1 - k)) (addR v n k (dg n (wlen n - 1 - k)) + 1) = addR v n (k + 1) := by
  funext l
  unfold upd
  by_cases e : l = dg n (wlen n - 1 - k)
  · subst e
    rw [if_pos rfl]
    show v _ + nI (cntR n (wlen n) k _) + 1 = v _ + nI (cntR n (wlen n) k _ + (if dg n (wlen n - 1 - k) = dg n (wlen n - 1 - k) then 1 else 0))
    rw [if_pos rfl, nI_succ, Int32.add_assoc]
  · rw [if_neg e]
    show v l + nI (cntR n (wlen n) k l) = v l + nI (cntR n (wlen n) k l + (if dg n (wlen n - 1 - k) = l then 1 else 0))
    rw [if_neg (fun q => e q.symm), Nat.add_zero]
theorem addR_at (v : Nat → Int32) (n l : Nat) : addR v n (wlen n) l = v l + nI (cnt n l) := by
  show v l + nI (cntR n (wlen n) (wlen n) l) = _
  rw [cntR_len]
theorem tkF_at (v : Nat → Int32) (n l : Nat) : tkF v n (wlen n) l = v l - nI (cnt n l) := by
  show v l - nI (cntR n (wlen n) (wlen n) l) = _
  rw [cntR_len]
theorem putF_1 (v : Nat → Int32) (n l : Nat) : putF v n 1 (wlen n) l = v l + nI (cnt n l) := by
  show v l + 1 * nI (cntU n (wlen n) l) = _
  rw [Int32.one_mul]; rfl
theorem putF_m (v : Nat → Int32) (n l : Nat) : putF v n (-1) (wlen n) l = v l - nI (cnt n l) := by
  show v l + (-1) * nI (cntU n (wlen n) l) = _
  rw [Int32.neg_mul, Int32.one_mul, Int32.sub_eq_add_neg]; rfl
theorem isU_sub {v w : Nat → Int32} {u : Nat → Nat} {n : Nat} (hu : isU v u) (ho : okU u n (wlen n)) (hw : ∀ l : Nat, w l = v l - nI (cnt n l)) : isU w (fun l => u l - cnt n l) := fun l a b => by
  have ⟨h1, h2⟩ := hu l a b
  have h3 : cnt n l ≤ u l := ho l a b
  refine ⟨?_, by show u l - cnt n l < _; omega⟩
  rw [hw l, h1, nI_sub h3]
theorem isU_add {v w : Nat → Int32} {u x : Nat → Nat} (hu : isU v u) (hr : roomU u x) (hw : ∀ l : Nat, 1 ≤ l → l ≤ 26 → w l = v l + nI (x l)) : isU w (fun l => u l + x l) := fun l a b => by
  have ⟨h1, h2⟩ := hu l a b
  have h3 := hr l a b
  refine ⟨?_, by show u l + x l < _; omega⟩
  rw [hw l a b, h1, nI_add]
theorem sp_in {n k : Nat} (hw : isW n) (hk : k < wlen n) : 1 ≤ dg n (wlen n - 1 - k) ∧ dg n (wlen n - 1 - k) ≤ 26 := hw.2.2 _ (by omega)
theorem p_xtkA {n : Nat} (hw : isW n) {sp : Nat → Int32} (hsp : ∀ k : Nat, k < wlen n → sp k = nI (dg n (wlen n - 1 - k))) {z : Int32} {f6 f7 : Nat → Int32} {K : (Nat → Int32) → (Nat → Int32) → Prop} (h : K (addR f6 n (wlen n)) (tkF f7 n (wlen n))) :
    ∀ m k fuel : Nat, k + m = wlen n → m < fuel → P_X9_takeBack_L86 z (nI (wlen n)) sp K fuel (nI k) (addR f6 n k) (tkF f7 n k) := by
  have hl := isW_len hw
  intro m
  induction m with
  | zero =>
    intro k fuel hk hf
    obtain ⟨g, rfl⟩ : ∃ g, fuel = g + 1 := ⟨fuel - 1, by omega⟩
    have e : k = wlen n := by omega
    subst e
    unfold P_X9_takeBack_L86
    exact ⟨fun _ => h, fun q => absurd (nI_le (Nat.le_refl _) (by omega)) q⟩
  | succ m ih =>
    intro k fuel hk hf
    obtain ⟨g, rfl⟩ : ∃ g, fuel = g + 1 := ⟨fuel - 1, by omega⟩
    have hd := sp_in hw (show k < wlen n by omega)
    have key := ih (k + 1) g (by omega) (by omega)
    rw [← addR_s, ← tkF_s] at key
    unfold P_X9_takeBack_L86
    rw [nI_clamp (show k < 2 ^ 31 by omega), hsp k (by omega), nI_clamp (show dg n (wlen n - 1 - k) < 2 ^ 31 by omega), ← nI_succ]
    exact ⟨fun q => absurd q (nI_ge (by omega) (by omega)), fun _ => ⟨nI_in (by omega) (by omega), nI_in (by omega) (by omega), nI_in (by omega) (by omega), nI_in (by omega) (by omega), nI_in (by omega) (by omega), nI_in (by omega) (by omega), key⟩⟩
theorem p_xslL {n : Nat} (hw : isW n) {sp : Nat → Int32} (hsp : ∀ k : Nat, k < wlen n → sp k = nI (dg n (wlen n - 1 - k))) {z1 : Int64} {z3 : Int32} {f6 f8 : Nat → Int32} {K : (Nat → Int32) → (Nat → Int32) → Prop} (h : K (tkF f6 n (wlen n)) (addR f8 n (wlen n))) :
    ∀ m k fuel : Nat, k + m = wlen n → m < fuel → P_X9_sellNow_L13 z1 z3 (nI (wlen n)) sp K fuel (nI k) (tkF f6 n k) (addR f8 n k) := by
  have hl := isW_len hw
  intro m
  induction m with
  | zero =>
    intro k fuel hk hf
    obtain ⟨g, rfl⟩ : ∃ g, fuel = g + 1 := ⟨fuel - 1, by omega⟩
    have e : k = wlen n := by omega
    subst e
    unfold P_X9_sellNow_L13
    exact ⟨fun _ => h, fun q => absurd (nI_le (Nat.le_refl _) (by omega)) q⟩
  | succ m ih =>
    intro k fuel hk hf
    obtain ⟨g, rfl⟩ : ∃ g, fuel = g + 1 := ⟨fuel - 1, by omega⟩
    have hd := sp_in hw (show k < wlen n by omega)
    have key := ih (k + 1) g (by omega) (by omega)
    rw [← addR_s, ← tkF_s] at key
    unfold P_X9_sellNow_L13
    rw [nI_clamp (show k < 2 ^ 31 by omega), hsp k (by omega), nI_clamp (show dg n (wlen n - 1 - k) < 2 ^ 31 by omega), ← nI_succ]
    exact ⟨fun q => absurd q (nI_ge (by omega) (by omega)), fun _ => ⟨nI_in (by omega) (by omega), nI_in (by omega) (by omega), nI_in (by omega) (by omega), nI_in (by omega) (by omega), nI_in (by omega) (by omega), nI_in (by omega) (by omega), key⟩⟩
theorem p_xtrL {v co : Nat → Int32} {u x : Nat → Nat} (hu : isU v u) (hx : isU co x) {z : Int32} {K : Int32 → Prop} :
    ∀ m k fuel : Nat, k + m = 26 → m < fuel → (K 0 → P_X9_takeBack_L24 z v co K fuel 0 (nI (k + 1))) ∧ ((∀ l : Nat, 1 ≤ l → l ≤ k → u l + x l ≤ 999) → (roomU u x → K 1) → (¬ roomU u x → K 0) → P_X9_takeBack_L24 z v co K fuel 1 (nI (k + 1))) := by
  intro m
  induction m with
  | zero =>
    intro k fuel hk hf
    obtain ⟨g, rfl⟩ : ∃ g, fuel = g + 1 := ⟨fuel - 1, by omega⟩
    have e : k = 26 := by omega
    subst e
    have hh : (26 : Int32) < nI (26 + 1) := nI_lt (a := 26) (b := 27) (by omega) (by omega)
    unfold P_X9_takeBack_L24
    exact ⟨fun h => ⟨fun _ => h, fun q => absurd hh q⟩, fun a b _ => ⟨fun _ => b a, fun q => absurd hh q⟩⟩
  | succ m ih =>
    intro k fuel hk hf
    obtain ⟨g, rfl⟩ : ∃ g, fuel = g + 1 := ⟨fuel - 1, by omega⟩
    have hh : ¬ (26 : Int32) < nI (k + 1) := nI_nlt (a := 26) (by omega) (by omega)
    have ⟨i0, i1⟩ := ih (k + 1) g (by omega) (by omega)
    have hin : vp_in (nI (k + 1)) 27 := nI_in (by omega) (by omega)
    have ⟨a1, a2⟩ := hu (k + 1) (by omega) (by omega)
    have ⟨b1, b2⟩ := hx (k + 1) (by omega) (by omega)
    unfold P_X9_takeBack_L24
    rw [nI_clamp (show k + 1 < 2 ^ 31 by omega), a1, b1, nI_add, ← nI_succ]
    refine ⟨fun h => ⟨fun q => absurd q hh, fun _ => ⟨fun _ => i0 h, fun q => absurd rfl q⟩⟩, fun a b d => ⟨fun q => absurd q hh, fun _ => ⟨fun q => absurd q (by decide), fun _ => ⟨hin, hin, fun q => i0 (d fun z => ?_), fun q => i1 (fun l p1 p2 => ?_) b d⟩⟩⟩⟩
    · have q' := (nlt (a := 999) (by omega) (by omega)).mp q
      have := z (k + 1) (by omega) (by omega)
      omega
    · have q' : ¬ 999 < u (k + 1) + x (k + 1) := fun z => q ((nlt (a := 999) (by omega) (by omega)).mpr z)
      by_cases e : l = k + 1
      · rw [e]; omega
      · exact a l p1 (by omega)
/-- what is refunded -/
def refI (p : Nat) : Int32 := nI p - nI p / 10
theorem p_ctake {R : List (Nat × Nat × Nat)} {z : ZL} (hz : recZ R z) (hc : capL (lln z) z.2.1) (hok : recOK R) {p v1 : Int32} {v0 v2 v3 : Nat → Int32} {u : Nat → Nat} (hu : isU v0 u) {post : Int32 → (Nat → Int32) → Int32 → (Nat → Int32) → (Nat → Int32) → ZL → Prop} {postX : String → (Nat → Int32) → Int32 → (Nat → Int32) → (Nat → Int32) → ZL → Prop}
    (h1 : ∀ (j : Nat) (r : Nat × Nat × Nat), p = nI j → R[j]? = some r → r.2.2 = 0 → roomU u (cnt r.1) → ∀ inc, isU inc (cnt r.1) → post (refI r.2.1) (padF v0 inc 26) (v1 - refI r.2.1) (putF v2 r.1 (-1) (wlen r.1)) inc (lset z j 1))
    (h2 : ∀ (j : Nat) (r : Nat × Nat × Nat), p = nI j → R[j]? = some r → ¬ (r.2.2 = 0 ∧ roomU u (cnt r.1)) → ∀ inc, postX sISE v0 v1 v2 inc z) (h0 : (∀ j : Nat, j < R.length → p ≠ nI j) → postX sIOB v0 v1 v2 v3 z) : P_X8_takeBack post postX p v0 v1 v2 v3 z := by
  refine p_creq hz hc hok (fun j r e hr => ?_) h0
  have ⟨g1, g2, g3⟩ := rec_at hz hr
  have hjl := (List.getElem?_eq_some_iff.mp hr).1
  have hw := (hok.1 r (List.mem_of_getElem? hr)).1
  have ht := (hok.1 r (List.mem_of_getElem? hr)).2
  have s1 : lwd (lset z j 1) j = lN r.1 ∧ lpr (lset z j 1) j = nI r.2.1 ∧ lrt (lset z j 1) j = nI 1 := rec_at (rec_set hz hr) (i := j) (r := (r.1, r.2.1, 1)) (List.getElem?_set_self hjl)
  show (lrt z j = 0 → _) ∧ (¬ lrt z j = 0 → _)
  refine ⟨fun q => ?_, fun q => h2 j r e hr (fun w => q (by rw [g3, w.1]; rfl)) _⟩
  have r0 : r.2.2 = 0 := by
    rw [g3] at q
    exact (neq (b := 0) (by omega) (by omega)).mp q
  rw [g1]
  refine p_clear (p_put hw.2.1 (p_reqRoom hu (isU_clr hw.2.1 v3) (fun hr2 => p_putAll ?_) (fun hr2 => h2 j r e hr (fun w => hr2 w.2) _)))
  unfold P_X0_giveBack P_X4_refund
  dsimp only
  rw [s1.1, s1.2.1]
  refine p_put hw.2.1 ⟨lset_lga z j 1 j, ?_, ?_⟩
  · rw [lset_lln, rec_len hz]; exact hjl
  · exact h1 j r e hr r0 hr2 _ (isU_clr hw.2.1 v3)
theorem p_xtake {R : List (Nat × Nat × Nat)} (hok : recOK R) {N : Nat} (hN : capX R.length N) {p v0 v1 v2 v3 v4 v5 : Int32} {v6 v7 : Nat → Int32} {v8 v11 v14 : Nat} {v10 : Nat → Int64} {v13 v16 v17 v18 : Nat → Int32} (hx : recX R v2 N v10 v13 v16) {u : Nat → Nat} (hu : isU v6 u) {post : Int32 → Int32 → Int32 → Int32 → (Nat → Int32) → (Nat → Int32) → (Nat → Int32) → (Nat → Int32) → (Nat → Int32) → Prop}
    (h1 : ∀ (j : Nat) (r : Nat × Nat × Nat), p = nI j → R[j]? = some r → r.2.2 = 0 → roomU u (cnt r.1) → ∀ a sp co, post (refI r.2.1) 0 (v3 - refI r.2.1) a (addR v6 r.1 (wlen r.1)) (tkF v7 r.1 (wlen r.1)) (upd v16 j 1) sp co)
    (h2 : ∀ (j : Nat) (r : Nat × Nat × Nat), p = nI j → R[j]? = some r → ¬ (r.2.2 = 0 ∧ roomU u (cnt r.1)) → ∀ a sp co, post 0 2 v3 a v6 v7 v16 sp co) (h0 : (∀ j : Nat, j < R.length → p ≠ nI j) → ∀ a sp co, post 0 1 v3 a v6 v7 v16 sp co) : P_X9_takeBack post p v0 v1 v2 v3 v4 v5 v6 v7 v8 N v10 v11 N v13 v14 N v16 v17 v18 := by
  have e2 := hx.1
  subst e2
  have hb := hN.2.2
  refine p_xreq hok (fun j r e hr => ⟨fun q => absurd q (by decide), fun _ => ?_⟩) (fun hno => ⟨fun _ => h0 hno _ _ _, fun q => absurd rfl q⟩)
  have hjl := (List.getElem?_eq_some_iff.mp hr).1
  have hn1 := hN.1
  have hw := (hok.1 r (List.mem_of_getElem? hr)).1
  have ht := (hok.1 r (List.mem_of_getElem? hr)).2
  have ⟨g1, g2, g3⟩ := hx.2.2 j r hr
  have n1 : vp_nar .boolean 1 = 1 := rfl
  subst e
  have hin : vp_in (nI j) N := nI_in (by omega) (by omega)
  rw [nI_clamp (show j < 2 ^ 31 by omega), g1, g2, g3, n1]
  refine ⟨hin, p_xspell hw (fun sp co hs => ?_)⟩
  have hco : isU co (cnt r.1) := fun l a b => ⟨hs.2 l b, by have := cnt_le hw.2.1 l; omega⟩
  refine (p_xtrL (z := nI j) hu hco (K := _) 26 0 FU rfl (FU_s _ (by omega))).2 (fun l a b => absurd a (by omega)) (fun hro => ⟨hin, fun q => ⟨fun z => absurd z (by decide), fun _ => ?_⟩, fun q => ?_⟩) (fun hro => ⟨hin, fun q => ⟨fun _ => h2 j r rfl hr (fun w => hro w.2) _ _ _, fun z => absurd rfl z⟩, fun q => h2 j r rfl hr (fun w => hro w.2) _ _ _⟩)
  · have r0 : r.2.2 = 0 := (neq (b := 0) (by omega) (by omega)).mp q
    have key := p_xtkA hw hs.1 (z := nI j) (f6 := v6) (f7 := v7) (K := fun (w10 : Nat → Int32) (w11 : Nat → Int32) => vp_in (nI j) N ∧ vp_in (nI j) N ∧ vp_in (nI j) N ∧ ∀ y12 : Int32, y12 = (nI r.2.1 - nI r.2.1 / 10) → post y12 0 (v3 - y12) (nI (wlen r.1)) w10 w11 (upd v16 j 1) sp co)
      ⟨hin, hin, hin, fun y hy => by rw [hy]; exact h1 j r rfl hr r0 hro _ _ _⟩ (wlen r.1) 0 FU (Nat.zero_add _) (len_FU hw.2.1)
    rw [addR_0, tkF_0, nI_0] at key
    exact key
  · have r1 : r.2.2 ≠ 0 := fun e => q (by rw [e]; rfl)
    exact h2 j r rfl hr (fun w => r1 w.1) _ _ _
/-! one sale -/
def subU (u : Nat → Nat) (n : Nat) : Nat → Nat := fun l => u l - cnt n l
theorem p_hand {R : List (Nat × Nat × Nat)} {z : ZL} (hz : recZ R z) (hc : capL (lln z) z.2.1) {n : Nat} (hw : isW n) {v v1 v2 v4 : Nat → Int32} {v3 : Int32} {u b : Nat → Nat} (hu : isU v u) (hb : isB v1 b) (ht : isWt v2) (ho : okU u n (wlen n)) {mc ms : Nat} (hm : 2 ≤ mc) (hs : 3 + gCst (lln z) z.2.1 ≤ ms) {post : Int32 → (Nat → Int32) → Int32 → (Nat → Int32) → ZL → Prop}
    (h : ∀ v' z', isU v' (subU u n) → recZ (R ++ [(n, costN n u b, 0)]) z' → z'.2.1 = gNew (lln z) z.2.1 → post (nI (costN n u b)) v' (v3 + nI (costN n u b)) (putF v4 n 1 (wlen n)) z') : P_X8_handOver post mc ms (lN n) v v1 v2 v3 v4 z := by
  refine p_weigh hw hu hb ht ho (p_take hw hu (fun _ => ⟨mc, ms, 0, 0, ⟨Nat.le_refl _, Nat.le_refl _⟩, p_cwrite hz hc hm hs hw.2.1 (fun z' h1 h2 => h _ z' (isU_sub hu ho (putF_m v n)) h1 h2)⟩) (fun q => absurd ho q))
theorem p_xsell {R : List (Nat × Nat × Nat)} (hok : recOK R) {N : Nat} (hN : capX R.length N) (hl : R.length < 10240) {v2 : Int32} {v11 : Nat → Int64} {v14 v17 : Nat → Int32} (hx : recX R v2 N v11 v14 v17) {n : Nat} (hw : isW n) {v6 v7 v8 v18 v19 v20 : Nat → Int32} {u b : Nat → Nat} (hu : isU v6 u) (hb : isB v7 b) (ho : okU u n (wlen n)) {mc ms : Nat} (hm : 3 ≤ mc) (hs : dCst R.length N ≤ ms) {v0 v1 v3 v4 v5 : Int32} {v9 v12 v15 : Nat} {post : Int32 → Int32 → Int32 → Int32 → (Nat → Int32) → (Nat → Int32) → Nat → Nat → (Nat → Int64) → Nat → Nat → (Nat → Int32) → Nat → Nat → (Nat → Int32) → (Nat → Int32) → (Nat → Int32) → (Nat → Int32) → Prop}
    (h : ∀ v' x a b' c w p' t sp co iw, isU v' (subU u n) → recX (R ++ [(n, costN n u b, 0)]) (nI (R.length + 1)) (dNew R.length N) w p' t → post (nI (costN n u b)) (nI (R.length + 1)) (v3 + nI (costN n u b)) x v' (addR v8 n (wlen n)) a (dNew R.length N) w b' (dNew R.length N) p' c (dNew R.length N) t sp co iw) : P_X9_sellNow post mc ms (lN n) v0 v1 v2 v3 v4 v5 v6 v7 v8 v9 N v11 v12 N v14 v15 N v17 v18 v19 v20 := by
  refine p_xspell hw (fun sp co hs' => p_xcost hw hu hb hs'.1 ho (fun iw => ?_))
  have key := p_xslL hw hs'.1 (z1 := lN n) (z3 := nI (costN n u b)) (f6 := v6) (f8 := v8) (K := fun (w7 : Nat → Int32) (w8 : Nat → Int32) => ∃ mc21 ms22 : Nat, ∃ mc23 ms24 : Nat, (mc21 + mc23 ≤ mc ∧ ms22 + ms24 ≤ ms) ∧ P_X9_write (fun (w10 : Int32) (w11 : Int32) (w12 : Nat) (w13 : Nat) (w14 : Nat → Int64) (w15 : Nat) (w16 : Nat) (w17 : Nat → Int32) (w18 : Nat) (w19 : Nat) (w20 : Nat → Int32) => post (nI (costN n u b)) w10 w11 (nI (wlen n)) w7 w8 w12 w13 w14 w15 w16 w17 w18 w19 w20 sp co iw) mc21 ms22 (lN n) (nI (costN n u b)) v0 v1 v2 v3 (nI (wlen n)) v5 v9 N v11 v12 N v14 v15 N v17)
    ⟨mc, ms, 0, 0, ⟨Nat.le_refl _, Nat.le_refl _⟩, p_xwrite hok hN hl hx hm hs (fun a b' c w p' t hx' => h _ _ a b' c w p' t sp co iw (isU_sub hu ho (tkF_at v6 n)) hx')⟩ (wlen n) 0 FU (Nat.zero_add _) (len_FU hw.2.1)
  rw [addR_0, tkF_0, nI_0] at key
  exact key
