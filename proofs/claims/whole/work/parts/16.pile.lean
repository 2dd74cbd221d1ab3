/-! piles of pieces -/
def cntU (n : Nat) : Nat → Nat → Nat
  | 0, _ => 0
  | i + 1, l => cntU n i l + (if dg n i = l then 1 else 0)
def cnt (n l : Nat) : Nat := cntU n (wlen n) l
theorem cntU_le (n l : Nat) : ∀ i : Nat, cntU n i l ≤ i
  | 0 => Nat.le_refl 0
  | i + 1 => by
    have := cntU_le n l i
    unfold cntU
    split <;> omega
theorem cntU_mono {n l i j : Nat} (h : i ≤ j) : cntU n i l ≤ cntU n j l := by
  induction j with
  | zero => rw [show i = 0 by omega]; exact Nat.le_refl _
  | succ j ih =>
    by_cases e : i = j + 1
    · rw [e]; exact Nat.le_refl _
    · have := ih (by omega)
      show _ ≤ cntU n j l + _
      omega
def putF (v : Nat → Int32) (n : Nat) (c : Int32) (i : Nat) : Nat → Int32 := fun l => v l + c * nI (cntU n i l)
theorem putF_0 (v : Nat → Int32) (n : Nat) (c : Int32) : putF v n c 0 = v := by
  funext l
  show v l + c * nI 0 = v l
  rw [show nI 0 = 0 from rfl, Int32.mul_zero, Int32.add_zero]
theorem putF_s (v : Nat → Int32) (n : Nat) (c : Int32) (i : Nat) : upd (putF v n c i) (dg n i) (putF v n c i (dg n i) + c) = putF v n c (i + 1) := by
  funext l
  unfold upd
  by_cases e : l = dg n i
  · subst e
    rw [if_pos rfl]
    show v _ + c * nI (cntU n i _) + c = v _ + c * nI (cntU n i _ + (if dg n i = dg n i then 1 else 0))
    rw [if_pos rfl, nI_succ, Int32.mul_add, Int32.mul_one, Int32.add_assoc]
  · rw [if_neg e]
    show v l + c * nI (cntU n i l) = v l + c * nI (cntU n i l + (if dg n i = l then 1 else 0))
    rw [if_neg (fun q => e q.symm), Nat.add_zero]
theorem putF_b (v : Nat → Int32) (n : Nat) (c d : Int32) (i : Nat) (hcd : c + d = 0) : upd (putF v n c (i + 1)) (dg n i) (putF v n c (i + 1) (dg n i) + d) = putF v n c i := by
  funext l
  unfold upd
  by_cases e : l = dg n i
  · subst e
    rw [if_pos rfl]
    show v _ + c * nI (cntU n i _ + (if dg n i = dg n i then 1 else 0)) + d = v _ + c * nI (cntU n i _)
    rw [if_pos rfl, nI_succ, Int32.mul_add, Int32.mul_one, ← Int32.add_assoc, Int32.add_assoc, hcd, Int32.add_zero]
  · rw [if_neg e]
    show v l + c * nI (cntU n i l + (if dg n i = l then 1 else 0)) = v l + c * nI (cntU n i l)
    rw [if_neg (fun q => e q.symm), Nat.add_zero]
theorem putF_back (v : Nat → Int32) (n : Nat) (c d : Int32) (i : Nat) (hcd : c + d = 0) : putF (putF v n c i) n d i = v := by
  funext l
  show v l + c * nI (cntU n i l) + d * nI (cntU n i l) = v l
  rw [Int32.add_assoc, ← Int32.add_mul, hcd, Int32.zero_mul, Int32.add_zero]
theorem dg_in (n i : Nat) : vp_in (nI (dg n i)) 32 := nI_in (dg_lt n i) (by omega)
theorem dg_cl (n i : Nat) : (nI (dg n i)).toNatClampNeg = dg n i := nI_clamp (by have := dg_lt n i; omega)
theorem len_FU {n : Nat} (hn : n < 32 ^ 12) : wlen n < FU := Nat.lt_of_le_of_lt ((wlen_le (by omega)).mpr hn) (by decide)
theorem p_putL {n : Nat} (hn : n < 32 ^ 12) {c : Int32} {v : Nat → Int32} {K : (Nat → Int32) → Prop} (h : K (putF v n c (wlen n))) : ∀ m i fuel : Nat, i + m = wlen n → m < fuel → P_X2_put_L9 (lN n) c (nI (wlen n)) K fuel (nI i) (putF v n c i) := by
  have hl : wlen n ≤ 12 := (wlen_le (by omega)).mpr hn
  intro m
  induction m with
  | zero =>
    intro i fuel hi hf
    obtain ⟨f, rfl⟩ : ∃ f, fuel = f + 1 := ⟨fuel - 1, by omega⟩
    have e : i = wlen n := by omega
    subst e
    unfold P_X2_put_L9
    exact ⟨fun _ => h, fun q => absurd (nI_le (Nat.le_refl _) (by omega)) q⟩
  | succ m ih =>
    intro i fuel hi hf
    obtain ⟨f, rfl⟩ : ∃ f, fuel = f + 1 := ⟨fuel - 1, by omega⟩
    unfold P_X2_put_L9
    refine ⟨fun q => absurd q (nI_ge (by omega) (by omega)), fun _ => p_letter hn (by omega) ⟨dg_in n i, dg_in n i, ?_⟩⟩
    rw [dg_cl, putF_s, ← nI_succ]
    exact ih (i + 1) f (by omega) (by omega)
theorem p_put {n : Nat} (hn : n < 32 ^ 12) {c : Int32} {v : Nat → Int32} {post : (Nat → Int32) → Prop} (h : post (putF v n c (wlen n))) : P_X2_put post (lN n) c v := by
  refine p_len hn ?_
  have := p_putL hn h (wlen n) 0 FU (Nat.zero_add _) (len_FU hn)
  rwa [putF_0] at this
/-- the pieces that a word asks for are there -/
def okU (u : Nat → Nat) (n i : Nat) : Prop := ∀ l : Nat, 1 ≤ l → l ≤ 26 → cntU n i l ≤ u l
def isU (v : Nat → Int32) (u : Nat → Nat) : Prop := ∀ l : Nat, 1 ≤ l → l ≤ 26 → v l = nI (u l) ∧ u l < 2 ^ 30
theorem m1_sub (a b : Nat) (h : b ≤ a) : nI a + (-1) * nI b = nI (a - b) := by
  have e : nI a = nI (a - b) + nI b := by
    unfold nI
    rw [← Int32.ofNat_add, Nat.sub_add_cancel h]
  rw [e, Int32.neg_mul, Int32.one_mul, Int32.add_assoc, Int32.add_right_neg, Int32.add_zero]
theorem p_takeL {n : Nat} (hw : isW n) {v : Nat → Int32} {u : Nat → Nat} (hu : isU v u) {K : Int32 → (Nat → Int32) → Prop} (h1 : okU u n (wlen n) → K (nI (wlen n)) (putF v n (-1) (wlen n))) (h0 : ∀ i : Nat, i < wlen n → ¬ okU u n (i + 1) → K (nI i) (putF v n (-1) i)) :
    ∀ m i fuel : Nat, i + m = wlen n → m < fuel → okU u n i → P_X2_take_L8 (lN n) (nI (wlen n)) K fuel (nI i) (putF v n (-1) i) := by
  have hl := isW_len hw
  have hn := hw.2.1
  intro m
  induction m with
  | zero =>
    intro i fuel hi hf ho
    obtain ⟨f, rfl⟩ : ∃ f, fuel = f + 1 := ⟨fuel - 1, by omega⟩
    have e : i = wlen n := by omega
    subst e
    unfold P_X2_take_L8
    exact ⟨fun _ => h1 ho, fun q => absurd (nI_le (Nat.le_refl _) (by omega)) q⟩
  | succ m ih =>
    intro i fuel hi hf ho
    obtain ⟨f, rfl⟩ : ∃ f, fuel = f + 1 := ⟨fuel - 1, by omega⟩
    have hd := hw.2.2 i (by omega)
    have ⟨hv, hv2⟩ := hu (dg n i) hd.1 hd.2
    have hval : putF v n (-1) i (dg n i) = nI (u (dg n i) - cntU n i (dg n i)) := by
      show v _ + (-1) * nI _ = _
      rw [hv, m1_sub _ _ (ho _ hd.1 hd.2)]
    unfold P_X2_take_L8
    refine ⟨fun q => absurd q (nI_ge (by omega) (by omega)), fun _ => p_letter hn (by omega) ⟨dg_in n i, ?_, ?_⟩⟩
    · rw [dg_cl, hval]
      intro q
      have q' := (nle (b := 0) (by omega) (by omega)).mp q
      refine h0 i (by omega) fun z => ?_
      have := z (dg n i) hd.1 hd.2
      unfold cntU at this
      rw [if_pos rfl] at this
      omega
    · rw [dg_cl, hval]
      intro q
      have q' : ¬ u (dg n i) - cntU n i (dg n i) ≤ 0 := fun z => q ((nle (b := 0) (by omega) (by omega)).mpr z)
      refine p_letter hn (by omega) ⟨dg_in n i, dg_in n i, ?_⟩
      rw [dg_cl, ← nI_succ]
      have e := putF_s v n (-1) i
      rw [show putF v n (-1) i (dg n i) + (-1) = putF v n (-1) i (dg n i) - 1 from (Int32.sub_eq_add_neg _ _).symm] at e
      rw [e]
      refine ih (i + 1) f (by omega) (by omega) fun l a b => ?_
      show cntU n i l + (if dg n i = l then 1 else 0) ≤ u l
      have c := ho l a b
      split
      · next e => subst e; omega
      · omega
theorem p_takeB {n : Nat} (hn : n < 32 ^ 12) {v : Nat → Int32} {K : (Nat → Int32) → Prop} (h : K v) : ∀ i fuel : Nat, i ≤ 12 → i < fuel → P_X2_take_L62 (lN n) 0 K fuel (nI i) (putF v n (-1) i) := by
  intro i
  induction i with
  | zero =>
    intro fuel hi hf
    obtain ⟨f, rfl⟩ : ∃ f, fuel = f + 1 := ⟨fuel - 1, by omega⟩
    unfold P_X2_take_L62
    rw [putF_0]
    exact ⟨fun _ => ⟨fun _ => h, fun q => absurd (show nI 0 ≤ 0 by decide) q⟩, fun q => absurd rfl q⟩
  | succ i ih =>
    intro fuel hi hf
    obtain ⟨f, rfl⟩ : ∃ f, fuel = f + 1 := ⟨fuel - 1, by omega⟩
    have e1 : nI (i + 1) + (-1) = nI i := by rw [nI_succ, Int32.add_assoc, show (1 : Int32) + (-1) = 0 by decide, Int32.add_zero]
    unfold P_X2_take_L62
    rw [e1]
    refine ⟨fun _ => ⟨fun q => absurd q (nI_ge (a := 0) (by omega) (by omega)), fun _ => p_letter hn (by omega) ⟨dg_in n i, dg_in n i, ?_⟩⟩, fun q => absurd rfl q⟩
    rw [dg_cl, putF_b v n (-1) 1 i (by decide)]
    exact ih f (by omega) (by omega)
theorem okU_le {u : Nat → Nat} {n i j : Nat} (h : i ≤ j) (ho : okU u n j) : okU u n i := fun l a b => Nat.le_trans (cntU_mono h) (ho l a b)
theorem p_take {n : Nat} (hw : isW n) {v : Nat → Int32} {u : Nat → Nat} (hu : isU v u) {post : Int32 → (Nat → Int32) → Prop} (h1 : okU u n (wlen n) → post 1 (putF v n (-1) (wlen n))) (h0 : ¬ okU u n (wlen n) → post 0 v) : P_X2_take post (lN n) v := by
  have hl := isW_len hw
  have hn := hw.2.1
  refine p_len hn ?_
  have := p_takeL hw hu (K := fun (x4 : Int32) (w5 : Nat → Int32) => (x4 = nI (wlen n) → P_X2_take_L62 (lN n) 1 (fun (w7 : Nat → Int32) => post 1 w7) FU x4 w5) ∧ (¬ (x4 = nI (wlen n)) → P_X2_take_L62 (lN n) 0 (fun (w8 : Nat → Int32) => post 0 w8) FU x4 w5)) ?_ ?_ (wlen n) 0 FU (Nat.zero_add _) (len_FU hn) (fun l _ _ => Nat.zero_le _)
  · rwa [putF_0] at this
  · intro ho
    refine ⟨fun _ => ?_, fun q => absurd rfl q⟩
    obtain ⟨f, hf⟩ : ∃ f, FU = f + 1 := ⟨FU - 1, by decide⟩
    rw [hf]
    unfold P_X2_take_L62
    exact ⟨fun q => absurd q (by decide), fun _ => h1 ho⟩
  · intro i hi ho
    refine ⟨fun q => absurd ((neq (by omega) (by omega)).mp q) (by omega), fun _ => ?_⟩
    exact p_takeB hn (h0 fun z => ho (okU_le (by omega) z)) i FU (by omega) (Nat.lt_of_le_of_lt (show i ≤ 12 by omega) (by decide))
theorem p_holds {n : Nat} (hw : isW n) {v : Nat → Int32} {u : Nat → Nat} (hu : isU v u) {post : Int32 → (Nat → Int32) → Prop} (h1 : okU u n (wlen n) → post 1 v) (h0 : ¬ okU u n (wlen n) → post 0 v) : P_X2_holds post (lN n) v := by
  refine p_take hw hu (fun ho => ⟨fun q => absurd q (by decide), fun _ => p_put hw.2.1 ?_⟩) (fun ho => ⟨fun _ => ⟨rfl, h0 ho⟩, fun q => absurd rfl q⟩)
  rw [putF_back v n (-1) 1 _ (by decide)]
  exact ⟨rfl, h1 ho⟩
