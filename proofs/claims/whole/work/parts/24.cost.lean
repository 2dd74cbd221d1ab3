/-! prices and costs -/
def prN (b s : Nat) : Nat := b + b * (10 - s) / 10
def wN (l : Nat) : Nat := if l = 1 ∨ l = 5 ∨ l = 9 ∨ l = 15 ∨ l = 21 then 2 else if l = 13 ∨ l = 23 then 5 else 3
theorem prN_le (b s : Nat) : prN b s ≤ 2 * b := by
  unfold prN
  have : b * (10 - s) / 10 ≤ b := by
    rw [Nat.div_le_iff_le_mul_add_pred (by decide)]
    have : b * (10 - s) ≤ b * 10 := Nat.mul_le_mul_left b (by omega)
    omega
  omega
theorem wN_le (l : Nat) : wN l ≤ 5 := by
  unfold wN
  split
  · omega
  · split <;> omega
theorem nI_mul (a b : Nat) : nI a * nI b = nI (a * b) := by unfold nI; rw [Int32.ofNat_mul]
theorem nI_sub {a b : Nat} (h : b ≤ a) : nI a - nI b = nI (a - b) := by
  have e : nI a = nI (a - b) + nI b := by
    rw [nI_add, Nat.sub_add_cancel h]
  rw [e, Int32.add_sub_cancel]
theorem pr_eq {b s : Nat} (hb : b < 1000) (hs : s < 2 ^ 30) : nI b + nI b * (if (0 : Int32) < 10 - nI s then 10 - nI s else 0) / 10 = nI (prN b s) := by
  have e10 : (10 : Int32) = nI 10 := rfl
  by_cases h : s < 10
  · have e1 : (10 : Int32) - nI s = nI (10 - s) := by rw [e10, nI_sub (by omega)]
    have hm : b * (10 - s) ≤ 1000 * 10 := Nat.mul_le_mul (by omega) (by omega)
    rw [e1, if_pos (show (0 : Int32) < nI (10 - s) from nI_lt (a := 0) (by omega) (by omega)), nI_mul, e10, pk_div (by omega) (by omega) (by omega), nI_add]
    rfl
  · have e1 : ¬ (0 : Int32) < 10 - nI s := by
      rw [Int32.lt_iff_toInt_lt]
      have : (10 - nI s).toInt = 10 - (s : Int) := by
        rw [Int32.toInt_sub, nI_toInt (by omega), show (10 : Int32).toInt = 10 from by decide]
        exact Int.bmod_eq_of_le (by omega) (by omega)
      rw [this]
      show ¬ (0 : Int) < _
      omega
    rw [if_neg e1, Int32.mul_zero, show (0 : Int32) / 10 = 0 by decide, Int32.add_zero]
    unfold prN
    rw [show 10 - s = 0 by omega, Nat.mul_zero]
    rfl
theorem lmask {l : Nat} (h : l < 32) : nI l &&& 31 = nI l := by rw [mskN, Nat.mod_eq_of_lt h]
theorem p_price {l b s : Nat} (hl : l < 32) {v0 v1 : Nat → Int32} (h0 : v0 l = nI s) (hs : s < 2 ^ 30) (h1 : v1 l = nI b) (hb : b < 1000) {post : Int32 → Prop} (h : post (nI (prN b s))) : P_X5_presentPrice post (nI l) v0 v1 := by
  unfold P_X5_presentPrice P_X5_basePrice P_X2_count
  rw [lmask hl, nI_clamp (by omega), h0, h1]
  refine ⟨nI_in hl (by omega), nI_in hl (by omega), fun y hy => ?_⟩
  rw [hy, pr_eq hb hs]
  exact h
theorem p_xprice {l b s : Nat} (hl : l < 27) {v6 : Nat → Int32} (hs : s < 2 ^ 30) (h1 : v6 l = nI b) (hb : b < 1000) {v0 v1 v2 v3 v4 v5 : Int32} {post : Int32 → Prop} (h : post (nI (prN b s))) : P_X9_price post (nI l) (nI s) v0 v1 v2 v3 v4 v5 v6 := by
  unfold P_X9_price
  intro y hy
  rw [nI_clamp (by omega), h1]
  refine ⟨nI_in hl (by omega), nI_in hl (by omega), ?_⟩
  rw [hy, pr_eq hb hs]
  exact h
theorem p_xweight {l : Nat} (hl : l < 27) {post : Int32 → Prop} (h : post (nI (wN l))) : P_X9_weight post (nI l) := by
  have q : ∀ k : Nat, k < 27 → (nI l = nI k ↔ l = k) := fun k hk => neq (by omega) (by omega)
  unfold P_X9_weight P_X9_isVowel
  unfold wN at h
  have w2 : (l = 1 ∨ l = 5 ∨ l = 9 ∨ l = 15 ∨ l = 21) → post 2 := fun z => by rw [if_pos z] at h; exact h
  have w5 : ¬ (l = 1 ∨ l = 5 ∨ l = 9 ∨ l = 15 ∨ l = 21) → (l = 13 ∨ l = 23) → post 5 := fun z y => by rw [if_neg z, if_pos y] at h; exact h
  have w3 : ¬ (l = 1 ∨ l = 5 ∨ l = 9 ∨ l = 15 ∨ l = 21) → ¬ (l = 13 ∨ l = 23) → post 3 := fun z y => by rw [if_neg z, if_neg y] at h; exact h
  have vow : (l = 1 ∨ l = 5 ∨ l = 9 ∨ l = 15 ∨ l = 21) → ((1 : Int32) = 0 → (nI l = 13 → post 5) ∧ (¬ (nI l = 13) → (nI l = 23 → post 5) ∧ (¬ (nI l = 23) → post 3))) ∧ (¬ ((1 : Int32) = 0) → post 2) := fun z => ⟨fun w => absurd w (by decide), fun _ => w2 z⟩
  refine ⟨fun a => vow (Or.inl ((q 1 (by omega)).mp a)), fun a => ⟨fun b => vow (Or.inr (Or.inl ((q 5 (by omega)).mp b))), fun b => ⟨fun c => vow (Or.inr (Or.inr (Or.inl ((q 9 (by omega)).mp c)))), fun c => ⟨fun d => vow (Or.inr (Or.inr (Or.inr (Or.inl ((q 15 (by omega)).mp d))))), fun d => ⟨fun e => vow (Or.inr (Or.inr (Or.inr (Or.inr ((q 21 (by omega)).mp e))))), fun e => ?_⟩⟩⟩⟩⟩
  have no : ¬ (l = 1 ∨ l = 5 ∨ l = 9 ∨ l = 15 ∨ l = 21) := by
    rintro (z | z | z | z | z)
    · exact a ((q 1 (by omega)).mpr z)
    · exact b ((q 5 (by omega)).mpr z)
    · exact c ((q 9 (by omega)).mpr z)
    · exact d ((q 15 (by omega)).mpr z)
    · exact e ((q 21 (by omega)).mpr z)
  refine ⟨fun _ => ⟨fun z => w5 no (Or.inl ((q 13 (by omega)).mp z)), fun z => ⟨fun y => w5 no (Or.inr ((q 23 (by omega)).mp y)), fun y => w3 no ?_⟩⟩, fun z => absurd rfl z⟩
  rintro (w | w)
  · exact z ((q 13 (by omega)).mpr w)
  · exact y ((q 23 (by omega)).mpr w)
/-- the sum of the first k letters, from the first on -/
def sumN (n : Nat) (u b : Nat → Nat) : Nat → Nat
  | 0 => 0
  | k + 1 => sumN n u b k + prN (b (dg n (wlen n - 1 - k))) (u (dg n (wlen n - 1 - k)) - cntR n (wlen n) k (dg n (wlen n - 1 - k))) * wN (dg n (wlen n - 1 - k))
def costN (n : Nat) (u b : Nat → Nat) : Nat := (sumN n u b (wlen n) + 15) / 16
def isB (v : Nat → Int32) (b : Nat → Nat) : Prop := ∀ l : Nat, 1 ≤ l → l ≤ 26 → v l = nI (b l) ∧ 1 ≤ b l ∧ b l < 1000
theorem sumN_le {n : Nat} (hw : isW n) {u b : Nat → Nat} (hb : ∀ l : Nat, 1 ≤ l → l ≤ 26 → b l < 1000) : ∀ k : Nat, k ≤ wlen n → sumN n u b k ≤ k * 10000
  | 0, _ => Nat.le_refl 0
  | k + 1, h => by
    have ih := sumN_le hw (u := u) hb k (by omega)
    have hd := hw.2.2 (wlen n - 1 - k) (by omega)
    have h1 := prN_le (b (dg n (wlen n - 1 - k))) (u (dg n (wlen n - 1 - k)) - cntR n (wlen n) k (dg n (wlen n - 1 - k)))
    have h2 := hb _ hd.1 hd.2
    have h3 := wN_le (dg n (wlen n - 1 - k))
    have h4 : prN (b (dg n (wlen n - 1 - k))) (u (dg n (wlen n - 1 - k)) - cntR n (wlen n) k (dg n (wlen n - 1 - k))) * wN (dg n (wlen n - 1 - k)) ≤ 2000 * 5 := Nat.mul_le_mul (by omega) h3
    show sumN n u b k + _ ≤ _
    omega
theorem cntR_lt {n k : Nat} (h : k < wlen n) : cntR n (wlen n) k (dg n (wlen n - 1 - k)) + 1 ≤ cnt n (dg n (wlen n - 1 - k)) := by
  have e := cntR_eq n (wlen n) (dg n (wlen n - 1 - k)) (k + 1) (by omega)
  have e2 : cntR n (wlen n) (k + 1) (dg n (wlen n - 1 - k)) = cntR n (wlen n) k (dg n (wlen n - 1 - k)) + (if dg n (wlen n - 1 - k) = dg n (wlen n - 1 - k) then 1 else 0) := rfl
  rw [if_pos rfl] at e2
  have e3 : cntU n (wlen n) (dg n (wlen n - 1 - k)) = cnt n (dg n (wlen n - 1 - k)) := rfl
  omega
def tkF (v : Nat → Int32) (n k : Nat) : Nat → Int32 := fun l => v l - nI (cntR n (wlen n) k l)
theorem tkF_s (v : Nat → Int32) (n k : Nat) : upd (tkF v n k) (dg n (wlen n - 1 - k)) (tkF v n k (dg n (wlen n - 1 - k)) - 1) = tkF v n (k + 1) := by
  funext l
  unfold upd
  by_cases e : l = dg n (wlen n - 1 - k)
  · subst e
    rw [if_pos rfl]
    show v _ - nI (cntR n (wlen n) k _) - 1 = v _ - nI (cntR n (wlen n) k _ + (if dg n (wlen n - 1 - k) = dg n (wlen n - 1 - k) then 1 else 0))
    rw [if_pos rfl, nI_succ, Int32.sub_eq_add_neg, Int32.sub_eq_add_neg, Int32.sub_eq_add_neg, Int32.neg_add, Int32.add_assoc, Int32.sub_eq_add_neg]
  · rw [if_neg e]
    show v l - nI (cntR n (wlen n) k l) = v l - nI (cntR n (wlen n) k l + (if dg n (wlen n - 1 - k) = l then 1 else 0))
    rw [if_neg (fun q => e q.symm), Nat.add_zero]
theorem p_weiL {n : Nat} (hw : isW n) {v v1 v2 : Nat → Int32} {u b : Nat → Nat} (hu : isU v u) (hb : isB v1 b) (hw2 : ∀ l : Nat, 1 ≤ l → l ≤ 26 → v2 l = nI (wN l)) (ho : okU u n (wlen n)) {K : Int32 → (Nat → Int32) → Prop} (h : K (nI (sumN n u b (wlen n))) (tkF v n (wlen n))) :
    ∀ m k fuel : Nat, k + m = wlen n → m < fuel → P_X5_weigh_L10 (lN n) v1 v2 K fuel (nI (sumN n u b k)) (nI m - 1) (tkF v n k) := by
  have hl := isW_len hw
  intro m
  induction m with
  | zero =>
    intro k fuel hk hf
    obtain ⟨g, rfl⟩ : ∃ g, fuel = g + 1 := ⟨fuel - 1, by omega⟩
    have e : k = wlen n := by omega
    subst e
    unfold P_X5_weigh_L10
    exact ⟨fun _ => h, fun q => absurd (show nI 0 - 1 < 0 by decide) q⟩
  | succ m ih =>
    intro k fuel hk hf
    obtain ⟨g, rfl⟩ : ∃ g, fuel = g + 1 := ⟨fuel - 1, by omega⟩
    have e1 : nI (m + 1) - 1 = nI m := by rw [nI_succ, Int32.add_sub_cancel]
    have em : m = wlen n - 1 - k := by omega
    have hd := hw.2.2 m (by omega)
    have hlt := dg_lt n m
    have hc := cntR_lt (n := n) (k := k) (by omega)
    rw [← em] at hc
    have hcu : cnt n (dg n m) ≤ u (dg n m) := ho _ hd.1 hd.2
    have ⟨hv, hv2⟩ := hu _ hd.1 hd.2
    have hval : tkF v n k (dg n m) = nI (u (dg n m) - cntR n (wlen n) k (dg n m)) := by
      show v _ - nI _ = _
      rw [hv, nI_sub (by omega)]
    have hb1 := (hb _ hd.1 hd.2).1
    have hb2 := (hb _ hd.1 hd.2).2.2
    unfold P_X5_weigh_L10
    rw [e1]
    refine ⟨fun q => absurd q (nI_pos (by omega)), fun _ => p_letter hw.2.1 (by omega) (p_price hlt hval (by omega) hb1 hb2 ⟨dg_in n m, fun y hy => ?_⟩)⟩
    rw [dg_cl, hw2 _ hd.1 hd.2, nI_mul, nI_add] at hy
    have es : sumN n u b k + prN (b (dg n m)) (u (dg n m) - cntR n (wlen n) k (dg n m)) * wN (dg n m) = sumN n u b (k + 1) := by
      show _ = sumN n u b k + prN (b (dg n (wlen n - 1 - k))) _ * _
      rw [← em]
    rw [hy, es]
    unfold P_X2_takeOne
    rw [lmask hlt, dg_cl]
    refine ⟨dg_in n m, dg_in n m, ?_⟩
    have et := tkF_s v n k
    rw [← em] at et
    rw [et, ← Int32.sub_eq_add_neg]
    exact ih (k + 1) g (by omega) (by omega)
theorem tkF_put (v : Nat → Int32) (n : Nat) : putF (tkF v n (wlen n)) n 1 (wlen n) = v := by
  funext l
  show v l - nI (cntR n (wlen n) (wlen n) l) + 1 * nI (cntU n (wlen n) l) = v l
  rw [cntR_len, Int32.one_mul]
  exact Int32.sub_add_cancel _ _
theorem cost_fin {x : Nat} (hx : x ≤ 120000) : (nI x + 16 - 1) / 16 = nI ((x + 15) / 16) ∧ ((nI x - nI x / 16 * 16) = 0 → nI x / 16 + 0 = nI ((x + 15) / 16)) ∧ (¬ (nI x - nI x / 16 * 16) = 0 → nI x / 16 + 1 = nI ((x + 15) / 16)) := by
  have e16 : (16 : Int32) = nI 16 := rfl
  have r : nI x - nI x / 16 * 16 = nI (x % 16) := by rw [e16]; exact pk_rem (by omega) (by decide) (by decide)
  have d : nI x / 16 = nI (x / 16) := by rw [e16]; exact pk_div (by omega) (by decide) (by decide)
  refine ⟨?_, fun h => ?_, fun h => ?_⟩
  · have : nI x + 16 - 1 = nI (x + 15) := by
      rw [e16, nI_add, show x + 16 = x + 15 + 1 by omega, nI_succ, Int32.add_sub_cancel]
    rw [this, e16]
    exact pk_div (by omega) (by decide) (by decide)
  · rw [r] at h
    have := (neq (b := 0) (by omega) (by omega)).mp h
    rw [d, Int32.add_zero]
    congr 1
    omega
  · rw [r] at h
    have : x % 16 ≠ 0 := fun z => h (by rw [z]; rfl)
    rw [d, ← nI_succ]
    congr 1
    omega
theorem p_weigh {n : Nat} (hw : isW n) {v v1 v2 : Nat → Int32} {u b : Nat → Nat} (hu : isU v u) (hb : isB v1 b) (hw2 : ∀ l : Nat, 1 ≤ l → l ≤ 26 → v2 l = nI (wN l)) (ho : okU u n (wlen n)) {post : Int32 → (Nat → Int32) → Prop} (h : post (nI (costN n u b)) v) : P_X5_weigh post (lN n) v v1 v2 := by
  have hl := isW_len hw
  have hs := sumN_le hw (u := u) (fun l a c => (hb l a c).2.2) (wlen n) (Nat.le_refl _)
  refine p_len hw.2.1 (fun y hy => ?_)
  rw [hy]
  have key := p_weiL hw hu hb hw2 ho (K := fun (x8 : Int32) (w9 : Nat → Int32) => P_X2_put (fun (w11 : Nat → Int32) => post (((x8 + 16) - 1) / 16) w11) (lN n) 1 w9) ?_ (wlen n) 0 FU (Nat.zero_add _) (FU_s _ (by omega))
  · have e0 : tkF v n 0 = v := by
      funext l
      show v l - nI 0 = v l
      rw [nI_0, Int32.sub_zero]
    rw [e0] at key
    exact key
  · refine p_put hw.2.1 ?_
    rw [tkF_put, (cost_fin (x := sumN n u b (wlen n)) (by omega)).1]
    exact h
