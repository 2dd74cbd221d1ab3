/-! cutting to order -/
def plP (S : List Nat) (n k : Nat) : List Nat := (outP n k (S.filter (fitsB n))).1
def lefU (n : Nat) (P : List Nat) : Nat → Nat := fun l => cnt n l - cntS P l
def cutL (P : List Nat) : List (Nat × Nat) := P.map (fun w => (w, 2 * wlen w))
theorem plP_ok (S : List Nat) (n k : Nat) : (outP n k (S.filter (fitsB n))).2 = lenS (plP S n k) ∧ fitC n (plP S n k) = true ∧ (plP S n k).length ≤ k ∧ ∀ w ∈ plP S n k, w ∈ S := by
  have ok := outP_ok n k (S.filter (fitsB n))
  exact ⟨ok.1, ok.2.1, ok.2.2.1, fun w hw => (List.mem_filter.mp (ok.2.2.2 w hw)).1⟩
/-! the number of leftovers -/
def sumF (f : Nat → Nat) : Nat → Nat
  | 0 => 0
  | k + 1 => sumF f k + f (k + 1)
theorem sumF_T (f : Nat → Nat) : ∀ k : Nat, sumT f (k + 1) = f 0 + sumF f k
  | 0 => by show 0 + f 0 = f 0 + 0; omega
  | k + 1 => by
    have := sumF_T f k
    show sumT f (k + 1) + f (k + 1) = f 0 + (sumF f k + f (k + 1))
    omega
theorem sumI_F {v : Nat → Int32} {x : Nat → Nat} : ∀ k : Nat, (∀ l : Nat, 1 ≤ l → l ≤ k → v l = nI (x l)) → sumI v k = nI (sumF x k)
  | 0, _ => nI_0.symm
  | k + 1, h => by
    show sumI v k + v (k + 1) = nI (sumF x k + x (k + 1))
    rw [sumI_F k (fun l a b => h l a (by omega)), h (k + 1) (by omega) (by omega), nI_add]
theorem cntS_fit {n : Nat} {P : List Nat} (hP : ∀ w ∈ P, isW w) (h : fitC n P = true) (l : Nat) : cntS P l ≤ cnt n l := by
  by_cases e : l = 0 ∨ 26 < l
  · rw [cntS_out hP e]; exact Nat.zero_le _
  · exact fitC_iff.mp h l (by omega) (by omega)
theorem sum_left {n : Nat} (hw : isW n) {P : List Nat} (hP : ∀ w ∈ P, isW w) (hfit : fitC n P = true) {v : Nat → Int32} (hv : isU v (lefU n P)) : sumI v 26 = nI (wlen n - lenS P) := by
  rw [sumI_F 26 (fun l a b => (hv l a b).1)]
  have e1 := sumT_add (lefU n P) (cntS P) 32
  have e2 : (fun l => lefU n P l + cntS P l) = cnt n := by
    funext l
    have := cntS_fit hP hfit l
    show cnt n l - cntS P l + cntS P l = cnt n l
    omega
  rw [e2, sumT_cntS P hP] at e1
  have e3 : sumT (cnt n) 32 = wlen n := sumT_cntU n (wlen n)
  rw [e3] at e1
  have e4 := sumF_T (lefU n P) 31
  have z : ∀ l : Nat, (l = 0 ∨ 26 < l) → lefU n P l = 0 := fun l hl => by
    show cnt n l - cntS P l = 0
    rw [cnt_out hw hl]; exact Nat.zero_sub _
  have e5 : sumF (lefU n P) 31 = sumF (lefU n P) 26 + lefU n P 27 + lefU n P 28 + lefU n P 29 + lefU n P 30 + lefU n P 31 := rfl
  rw [z 27 (by omega), z 28 (by omega), z 29 (by omega), z 30 (by omega), z 31 (by omega)] at e5
  rw [z 0 (by omega)] at e4
  have e6 : sumF (lefU n P) 26 = wlen n - lenS P := by
    have e4' : sumT (lefU n P) 32 = 0 + sumF (lefU n P) 31 := e4
    omega
  rw [e6]
/-! the component -/
section CO
variable {S : List Nat}
theorem p_cmake {p : Int64} {z c : Int32} {f : Nat → Int64} (hr : rowIs c f S) (hd : dicS S) {v2 : Int32} {v3 : Nat → Int64} {v4 : Nat → Int32} {v5 v6 : Int32} {v7 : Nat → Int32} {v8 : Int32} {v9 : Nat → Int64} (h89 : rowIs v8 v9 []) {v10 : Int32} {v11 : Nat → Int64} {post : Int32 → (Nat → Int64) → (Nat → Int32) → Int32 → Int32 → (Nat → Int32) → Int32 → (Nat → Int64) → Int32 → (Nat → Int64) → Prop} {postX : String → Int32 → (Nat → Int64) → (Nat → Int32) → Int32 → Int32 → (Nat → Int32) → Int32 → (Nat → Int64) → Int32 → (Nat → Int64) → Prop}
    (h1 : ∀ n k : Nat, p = lN n → isW n → z = nI k → 1 ≤ k → k ≤ 3 → ∀ c1 f1 w4 a b left c2 f2 c3 f3, isU left (lefU n (plP S n k)) → rowIs c2 f2 [] → rowIs c3 f3 (plP S n k) → post c1 f1 w4 a b left c2 f2 c3 f3) (hi : ¬ (isWd p ∧ inR z 1 3) → postX sIAE v2 v3 v4 v5 v6 v7 v8 v9 v10 v11) : P_X8_makePlan post postX p z c f v2 v3 v4 v5 v6 v7 v8 v9 v10 v11 := by
  refine p_reqWord (fun hw => p_range (lo := 1) (hi := 3) (by omega) (by omega) (fun hz => ?_) (fun h => hi fun q => h q.2)) (fun h => hi fun q => h q.1)
  obtain ⟨n, rfl, hw⟩ := hw
  obtain ⟨k, a, b, rfl⟩ := hz
  refine p_fitting hr hd.1 hw.2.1 (fun c' f' v' hr' => ?_)
  rw [fit_eq hd.1 n, fit_ask n] at hr'
  refine p_plan hw hr' (fun m hm => hd.1 m (List.mem_filter.mp hm).1) b h89 (fun a1 b1 left c2 f2 c3 f3 h2 h3 h4 => ?_)
  exact h1 n k rfl hw rfl a b c' f' v' a1 b1 left c2 f2 c3 f3 h2 h3 h4
theorem p_cpl {p : Int64} {z c : Int32} {f : Nat → Int64} (hr : rowIs c f S) (hd : dicS S) {v2 : Int32} {v3 : Nat → Int64} {v4 : Nat → Int32} {v5 v6 : Int32} {v7 : Nat → Int32} {v8 : Int32} {v9 : Nat → Int64} (h89 : rowIs v8 v9 []) {v10 : Int32} {v11 : Nat → Int64} {post : Int32 → Int32 → (Nat → Int64) → (Nat → Int32) → Int32 → Int32 → (Nat → Int32) → Int32 → (Nat → Int64) → Int32 → (Nat → Int64) → Prop} {postX : String → Int32 → (Nat → Int64) → (Nat → Int32) → Int32 → Int32 → (Nat → Int32) → Int32 → (Nat → Int64) → Int32 → (Nat → Int64) → Prop}
    (h1 : ∀ n k : Nat, p = lN n → isW n → z = nI k → 1 ≤ k → k ≤ 3 → ∀ c1 f1 w4 a b left c2 f2 c3 f3, rowIs c2 f2 [] → post (nI (plP S n k).length) c1 f1 w4 a b left c2 f2 c3 f3) (hi : ¬ (isWd p ∧ inR z 1 3) → postX sIAE v2 v3 v4 v5 v6 v7 v8 v9 v10 v11) : P_X8_planLength post postX p z c f v2 v3 v4 v5 v6 v7 v8 v9 v10 v11 :=
  p_cmake hr hd h89 (fun n k e1 e2 e3 e4 e5 c1 f1 w4 a b left c2 f2 c3 f3 q1 q2 q3 => by
    show post c3 _ _ _ _ _ _ _ _ _ _
    rw [q3.1]
    exact h1 n k e1 e2 e3 e4 e5 c1 f1 w4 a b left c2 f2 _ f3 q2) hi
theorem p_cpw {p : Int64} {z i c : Int32} {f : Nat → Int64} (hr : rowIs c f S) (hd : dicS S) {v2 : Int32} {v3 : Nat → Int64} {v4 : Nat → Int32} {v5 v6 : Int32} {v7 : Nat → Int32} {v8 : Int32} {v9 : Nat → Int64} (h89 : rowIs v8 v9 []) {v10 : Int32} {v11 : Nat → Int64} {post : Int64 → Int32 → (Nat → Int64) → (Nat → Int32) → Int32 → Int32 → (Nat → Int32) → Int32 → (Nat → Int64) → Int32 → (Nat → Int64) → Prop} {postX : String → Int32 → (Nat → Int64) → (Nat → Int32) → Int32 → Int32 → (Nat → Int32) → Int32 → (Nat → Int64) → Int32 → (Nat → Int64) → Prop}
    (h1 : ∀ n k j w : Nat, p = lN n → isW n → z = nI k → 1 ≤ k → k ≤ 3 → i = nI j → (plP S n k)[j]? = some w → ∀ c1 f1 w4 a b left c2 f2 c3 f3, rowIs c2 f2 [] → post (lN w) c1 f1 w4 a b left c2 f2 c3 f3) (h2 : ∀ n k : Nat, p = lN n → isW n → z = nI k → 1 ≤ k → k ≤ 3 → (∀ j : Nat, j < (plP S n k).length → i ≠ nI j) → ∀ c1 f1 w4 a b left c2 f2 c3 f3, rowIs c2 f2 [] → postX sIOB c1 f1 w4 a b left c2 f2 c3 f3) (hi : ¬ (isWd p ∧ inR z 1 3) → postX sIAE v2 v3 v4 v5 v6 v7 v8 v9 v10 v11) : P_X8_planWord post postX p z i c f v2 v3 v4 v5 v6 v7 v8 v9 v10 v11 :=
  p_cmake hr hd h89 (fun n k e1 e2 e3 e4 e5 c1 f1 w4 a b left c2 f2 c3 f3 q1 q2 q3 =>
    p_reqWordOf q3 (post := fun (r13 : Int64) => post r13 c1 f1 w4 a b left c2 f2 c3 f3) (postX := fun (E14 : String) => postX E14 c1 f1 w4 a b left c2 f2 c3 f3) (fun j w g1 g2 => h1 n k j w e1 e2 e3 e4 e5 g1 g2 _ _ _ _ _ _ _ _ _ _ q2) (fun g => h2 n k e1 e2 e3 e4 e5 g _ _ _ _ _ _ _ _ _ _ q2)) hi
theorem p_clo {p : Int64} {z c : Int32} {f : Nat → Int64} (hr : rowIs c f S) (hd : dicS S) {v2 : Int32} {v3 : Nat → Int64} {v4 : Nat → Int32} {v5 v6 : Int32} {v7 : Nat → Int32} {v8 : Int32} {v9 : Nat → Int64} (h89 : rowIs v8 v9 []) {v10 : Int32} {v11 : Nat → Int64} {post : Int32 → Int32 → (Nat → Int64) → (Nat → Int32) → Int32 → Int32 → (Nat → Int32) → Int32 → (Nat → Int64) → Int32 → (Nat → Int64) → Prop} {postX : String → Int32 → (Nat → Int64) → (Nat → Int32) → Int32 → Int32 → (Nat → Int32) → Int32 → (Nat → Int64) → Int32 → (Nat → Int64) → Prop}
    (h1 : ∀ n k : Nat, p = lN n → isW n → z = nI k → 1 ≤ k → k ≤ 3 → ∀ c1 f1 w4 a b left c2 f2 c3 f3, rowIs c2 f2 [] → post (nI (wlen n - lenS (plP S n k))) c1 f1 w4 a b left c2 f2 c3 f3) (hi : ¬ (isWd p ∧ inR z 1 3) → postX sIAE v2 v3 v4 v5 v6 v7 v8 v9 v10 v11) : P_X8_leftoverCount post postX p z c f v2 v3 v4 v5 v6 v7 v8 v9 v10 v11 :=
  p_cmake hr hd h89 (fun n k e1 e2 e3 e4 e5 c1 f1 w4 a b left c2 f2 c3 f3 q1 q2 q3 => by
    have ok := plP_ok S n k
    refine p_total ?_
    rw [sum_left e2 (fun w hw => hd.1 w (ok.2.2.2 w hw)) ok.2.1 q1]
    exact h1 n k e1 e2 e3 e4 e5 c1 f1 w4 a b left c2 f2 c3 f3 q2) hi
theorem p_ccoL {P : List Nat} {v14 : Int32} {v15 : Nat → Int64} (hP : rowIs v14 v15 P) (hPW : ∀ w ∈ P, isW w) {z1 : Int64} {v9 v10 : Int32} {K : Nat → Nat → Int32 → (Nat → Int32) → ZL → Prop} :
    ∀ (T : List Nat) (j fuel : Nat) (R : List (Nat × Nat × Nat)) (z : ZL) (v6 : Int32) (v8 : Nat → Int32) (rc rs : Nat), P.drop j = T → j ≤ P.length → T.length < fuel → recZ R z → capL (lln z) z.2.1 → R.length + T.length ≤ 10240 → 2 * (cutL T).length ≤ rc → gSum (lln z) z.2.1 (cutL T).length ≤ rs →
    (∀ rc rs z', recZ (R ++ rcsL (cutL T)) z' → z'.2.1 = gFin (lln z) z.2.1 (cutL T).length → capL (lln z') z'.2.1 → K rc rs (balI v6 (cutL T)) (putS v8 (cutL T)) z') →
    P_X8_cutToOrder_L34 z1 v9 v10 v14 v15 K fuel rc rs (nI j) v6 v8 z := by
  obtain ⟨rfl, h60, -⟩ := id hP
  intro T
  induction T with
  | nil =>
    intro j fuel R z v6 v8 rc rs hdr hj hf hz hc hR hrc hrs h
    obtain ⟨g, rfl⟩ : ∃ g, fuel = g + 1 := ⟨fuel - 1, by simp at hf; omega⟩
    have en : R ++ rcsL (cutL []) = R := List.append_nil R
    rw [en] at h
    unfold P_X8_cutToOrder_L34
    exact ⟨fun _ => h rc rs z hz rfl hc, fun q => absurd (nI_le (drop_nil hdr) (by omega)) q⟩
  | cons x T ih =>
    intro j fuel R z v6 v8 rc rs hdr hj hf hz hc hR hrc hrs h
    obtain ⟨g, rfl⟩ : ∃ g, fuel = g + 1 := ⟨fuel - 1, by simp at hf; omega⟩
    obtain ⟨hai, hd2⟩ := drop_at hdr
    have hil := (List.getElem?_eq_some_iff.mp hai).1
    have hwx := hPW x (List.mem_of_getElem? hai)
    have hf2 : T.length < g := by simp at hf; omega
    have hlz := rec_len hz
    rw [List.length_cons] at hR
    have hs2 : 3 + gCst (lln z) z.2.1 + gSum (lln z + 1) (gNew (lln z) z.2.1) (cutL T).length ≤ rs := hrs
    have hc2 : 2 * ((cutL T).length + 1) ≤ rc := hrc
    have e2 : (2 : Int32) * nI (wlen x) = nI (2 * wlen x) := nI_mul 2 (wlen x)
    unfold P_X8_cutToOrder_L34
    rw [← nI_succ]
    refine ⟨fun q => absurd q (nI_ge hil (by omega)), fun _ => p_word hP hai (p_len hwx.2.1 ⟨2, 3 + gCst (lln z) z.2.1, rc - 2, rs - (3 + gCst (lln z) z.2.1), ⟨by omega, by omega⟩, ?_⟩)⟩
    rw [e2]
    refine p_cwrite hz hc (Nat.le_refl _) (Nat.le_refl _) hwx.2.1 (fun z' hz' hc' => ?_)
    have hl2 : lln z' = lln z + 1 := by rw [rec_len hz', rcs_len, hlz]
    have hcap : capL (lln z') z'.2.1 := by rw [hl2, hc']; exact cap_new hc (by omega)
    refine ih (j + 1) g _ z' _ _ _ _ hd2 (by omega) hf2 hz' hcap (by rw [rcs_len]; omega) (by omega) (by rw [hl2, hc']; omega) (fun rc' rs' z'' h1 h2 h3 => ?_)
    rw [hl2, hc'] at h2
    rw [rcs_cons] at h1
    exact h rc' rs' z'' h1 h2 h3
theorem p_ccto {p : Int64} {z c : Int32} {f : Nat → Int64} (hr : rowIs c f S) (hd : dicS S) {v2 : Int32} {v3 : Nat → Int64} {v4 v5 : Nat → Int32} {v6 : Int32} {v7 v8 : Nat → Int32} {v9 v10 : Int32} {v11 : Nat → Int32} {v12 : Int32} {v13 : Nat → Int64} (h89 : rowIs v12 v13 []) {v14 : Int32} {v15 : Nat → Int64} {u : Nat → Nat} (hu : isU v5 u) {R : List (Nat × Nat × Nat)} {zl : ZL} (hz : recZ R zl) (hc : capL (lln zl) zl.2.1) (hR : R.length + 20 ≤ 10240) {L : List (Nat × Nat)} (hL : ∀ n k : Nat, p = lN n → isW n → z = nI k → 1 ≤ k → k ≤ 3 → roomU u (lefU n (plP S n k)) → L = cutL (plP S n k)) {mc ms : Nat} (hm : 4 + 2 * L.length ≤ mc) (hs : 24 + gSum (lln zl) zl.2.1 L.length ≤ ms)
    {post : Int32 → Int32 → (Nat → Int64) → (Nat → Int32) → (Nat → Int32) → Int32 → (Nat → Int32) → (Nat → Int32) → Int32 → Int32 → (Nat → Int32) → Int32 → (Nat → Int64) → Int32 → (Nat → Int64) → ZL → Prop} {postX : String → Int32 → (Nat → Int64) → (Nat → Int32) → (Nat → Int32) → Int32 → (Nat → Int32) → (Nat → Int32) → Int32 → Int32 → (Nat → Int32) → Int32 → (Nat → Int64) → Int32 → (Nat → Int64) → ZL → Prop}
    (h1 : ∀ n k : Nat, p = lN n → isW n → z = nI k → 1 ≤ k → k ≤ 3 → roomU u (lefU n (plP S n k)) → ∀ c1 f1 w4 v' a b left c2 f2 c3 f3 z', isU v' (fun l => u l + lefU n (plP S n k) l) → rowIs c2 f2 [] → recZ (R ++ rcsL L) z' → z'.2.1 = gFin (lln zl) zl.2.1 L.length → capL (lln z') z'.2.1 → post (nI (wlen n - lenS (plP S n k))) c1 f1 w4 v' (balI v6 L) (putF v7 n 1 (wlen n)) (putS v8 L) a b left c2 f2 c3 f3 z')
    (h2 : ∀ n k : Nat, p = lN n → isW n → z = nI k → 1 ≤ k → k ≤ 3 → ¬ roomU u (lefU n (plP S n k)) → ∀ c1 f1 w4 a b left c2 f2 c3 f3, rowIs c2 f2 [] → postX sISE c1 f1 w4 v5 v6 v7 v8 a b left c2 f2 c3 f3 zl)
    (hi : ¬ (isWd p ∧ inR z 1 3) → postX sIAE v2 v3 v4 v5 v6 v7 v8 v9 v10 v11 v12 v13 v14 v15 zl) : P_X8_cutToOrder post postX mc ms p z c f v2 v3 v4 v5 v6 v7 v8 v9 v10 v11 v12 v13 v14 v15 zl := by
  refine ⟨mc - 2, ms - 12, ⟨by omega, by omega⟩, p_cmake hr hd h89 (fun n k e1 e2 e3 e4 e5 c1 f1 w4 a b left c2 f2 c3 f3 q1 q2 q3 => ?_) hi⟩
  have q3' := q3.1
  subst q3'
  have ok := plP_ok S n k
  have hPW : ∀ w ∈ plP S n k, isW w := fun w hw => hd.1 w (ok.2.2.2 w hw)
  refine ⟨mc - 3, ms - 18, ⟨by omega, by omega⟩, p_reqRoom hu q1 (fun hro => ?_) (fun hro => h2 n k e1 e2 e3 e4 e5 hro c1 f1 w4 a b left c2 f2 _ f3 q2)⟩
  have eL := hL n k e1 e2 e3 e4 e5 hro
  have eLn : L.length = (plP S n k).length := by rw [eL]; exact List.length_map _
  have hlz := rec_len hz
  have es : lsz zl = nI R.length := by unfold lsz; rw [hlz]
  refine ⟨mc - 4, ms - 24, ⟨by omega, by omega⟩, ?_⟩
  unfold P_X8_requireReceipts P_X0_hasRoomFor
  rw [es, nI_add]
  refine ⟨fun q => absurd ((nlt (a := 10240) (by omega) (by omega)).mp q) (by omega), fun _ => ⟨fun q => absurd q (by decide), fun _ => ?_⟩⟩
  have key := p_ccoL q3 hPW (z1 := p) (v9 := a) (v10 := b) (K := fun (mc41 : Nat) (ms42 : Nat) (w36 : Int32) (w37 : Nat → Int32) (w38 : ZL) => P_X2_put (fun (w44 : Nat → Int32) => P_X3_leftovers (P_X2_putAll (fun (w47 : Nat → Int32) => P_X3_leftovers (P_X2_total (fun (r49 : Int32) => post r49 c1 f1 w4 w47 w36 w44 w37 a b left c2 f2 (nI (plP S n k).length) f3 w38) left) a b) v5 left) a b) p 1 v7)
    (plP S n k) 0 FU R zl v6 v8 (mc - 4) (ms - 24) rfl (Nat.zero_le _) (FU_s _ (by omega)) hz hc (by omega) (by rw [← eL]; omega) (by rw [← eL]; omega) (fun rc rs z' g1 g2 g3 => by
      rw [← eL] at g1 g2 ⊢
      rw [e1]
      refine p_put e2.2.1 (p_putAll (p_total ?_))
      rw [sum_left e2 hPW ok.2.1 q1]
      exact h1 n k e1 e2 e3 e4 e5 hro c1 f1 w4 _ a b left c2 f2 _ f3 z' (isU_add hu hro (fun l x y => by rw [padF_in x y, (q1 l x y).1])) q2 g1 g2 g3)
  rw [nI_0] at key
  exact key
end CO
