/-! the model's best word -/
theorem bett_tot {u b : Nat → Nat} {x m : Nat} (hx : isW x) (hm : isW m) (h : ¬ bett u b m x) : m = x ∨ bett u b x m := by
  by_cases e : rk m = rk x
  · exact Or.inl (rk_inj hm hx e)
  · unfold bett at *
    omega
theorem p_xcostNow {n : Nat} (hw : isW n) {v6 v7 : Nat → Int32} {u b : Nat → Nat} (hu : isU v6 u) (hb : isB v7 b) (ho : okU u n (wlen n)) {v0 v1 v2 v3 v4 v5 : Int32} {v8 v9 v10 : Nat → Int32} {post : Int32 → Int32 → (Nat → Int32) → (Nat → Int32) → (Nat → Int32) → Prop}
    (h : ∀ sp co w, spelIs n sp co → post (nI (costN n u b)) (nI (wlen n)) sp co w) : P_X9_costNow post (lN n) v0 v1 v2 v3 v4 v5 v6 v7 v8 v9 v10 :=
  p_xspell hw (fun sp co hs => p_xcost hw hu hb hs.1 ho (fun w => h sp co w hs))
theorem p_xbetter {n m : Nat} (hn : isW n) (hm : isW m) {v6 v7 : Nat → Int32} {u b : Nat → Nat} (hu : isU v6 u) (hb : isB v7 b) (hon : okU u n (wlen n)) (hom : okU u m (wlen m)) {v0 v1 v2 v3 v4 v5 : Int32} {v8 v9 v10 : Nat → Int32} {post : Int32 → Int32 → (Nat → Int32) → (Nat → Int32) → (Nat → Int32) → Prop}
    (h1 : bett u b n m → ∀ a sp co w, post 1 a sp co w) (h0 : ¬ bett u b n m → ∀ a sp co w, post 0 a sp co w) : P_X9_isBetter post (lN n) (lN m) v0 v1 v2 v3 v4 v5 v6 v7 v8 v9 v10 := by
  have ln := isW_len hn
  have lm := isW_len hm
  have cn := costN_le hn (u := u) (isB_lt hb)
  have cm' := costN_le hm (u := u) (isB_lt hb)
  have n63 : n < 2 ^ 63 := Nat.lt_trans hn.2.1 (by decide)
  have m63 : m < 2 ^ 63 := Nat.lt_trans hm.2.1 (by decide)
  have rn := rk_lt hn.2.1
  have rm' := rk_lt hm.2.1
  refine p_xlen n63 (p_xlen m63 ⟨fun e => ?_, fun e => p_xlen n63 (p_xlen m63 ⟨fun z => h0 ?_ _ _ _ _, fun z => h1 ?_ _ _ _ _⟩)⟩)
  · have e' := (neq (by omega) (by omega)).mp e
    refine p_xcostNow hm hu hb hom (fun sp co w _ => p_xcostNow hn hu hb hon (fun sp2 co2 w2 _ y hy => ?_))
    have hyt : y.toInt = (costN m u b : Int) - (costN n u b : Int) := by
      rw [hy, Int32.toInt_sub, nI_toInt (by omega), nI_toInt (by omega)]
      exact Int.bmod_eq_of_le (by omega) (by omega)
    refine ⟨fun z => h1 ?_ _ _ _ _, fun z => ⟨fun y0 => p_xkey hn.2.1 (p_xkey hm.2.1 ⟨fun q => h0 ?_ _ _ _ _, fun q => h1 ?_ _ _ _ _⟩), fun y0 => h0 ?_ _ _ _ _⟩⟩
    · rw [Int32.lt_iff_toInt_lt, hyt, Int32.toInt_zero] at z
      unfold bett; omega
    · have c0 : costN m u b = costN n u b := by rw [y0, Int32.toInt_zero] at hyt; omega
      have q' := (pk_lLE (by omega) (by omega)).mp q
      unfold bett; omega
    · have c0 : costN m u b = costN n u b := by rw [y0, Int32.toInt_zero] at hyt; omega
      have q' : ¬ rk m ≤ rk n := fun w => q ((pk_lLE (by omega) (by omega)).mpr w)
      unfold bett; omega
    · rw [Int32.lt_iff_toInt_lt, hyt, Int32.toInt_zero] at z
      have : y.toInt ≠ 0 := fun w => y0 (Int32.toInt_inj.mp (by rw [w, Int32.toInt_zero]))
      unfold bett; omega
  · have z' := (nle (by omega) (by omega)).mp z
    have : wlen n ≠ wlen m := fun w => e (by rw [w])
    unfold bett; omega
  · have z' : ¬ wlen n ≤ wlen m := fun w => z ((nle (by omega) (by omega)).mpr w)
    unfold bett; omega
theorem sel_ok {u b : Nat → Nat} {B m : Nat} (h : selB u b B m = true) : okU u m (wlen m) := okB_iff.mp (by unfold selB at h; exact (Bool.and_eq_true_iff.mp h).1)
theorem p_xbestL {B : Nat} (hB : B < 2 ^ 31) {v1 : Int32} {v6 : Nat → Int64} {S M : List Nat} (hr : rowIs v1 v6 M) (hd : dRel S M) {v7 v8 : Nat → Int32} {u b : Nat → Nat} (hu : isU v7 u) (hb : isB v8 b) {v0 v2 v3 v5 : Int32} {K : Int64 → Int32 → (Nat → Int32) → (Nat → Int32) → (Nat → Int32) → Prop}
    (h : ∀ x : Nat, isBest u b (fun m => m ∈ M ∧ selB u b B m = true) x → ∀ a sp co w, K (lN x) a sp co w) :
    ∀ (T : List Nat) (i fuel x : Nat) (a : Int32) (sp co w : Nat → Int32), M.drop i = T → i ≤ M.length → T.length < fuel → isBest u b (fun m => m ∈ M.take i ∧ selB u b B m = true) x → P_X9_best_L5 (nI B) v0 v1 v2 v3 v5 v6 v7 v8 K fuel (lN x) (nI i) a sp co w := by
  obtain ⟨rfl, h60, hf6⟩ := id hr
  intro T
  induction T with
  | nil =>
    intro i fuel x a sp co w hdr hi hf hc
    obtain ⟨g, rfl⟩ : ∃ g, fuel = g + 1 := ⟨fuel - 1, by simp at hf; omega⟩
    unfold P_X9_best_L5
    refine ⟨fun _ => h x ?_ _ _ _ _, fun z => absurd (nI_le (drop_nil hdr) (by omega)) z⟩
    rwa [List.take_of_length_le (drop_nil hdr)] at hc
  | cons m T ih =>
    intro i fuel x a sp co w hdr hi hf hc
    obtain ⟨g, rfl⟩ : ∃ g, fuel = g + 1 := ⟨fuel - 1, by simp at hf; omega⟩
    obtain ⟨hai, hd2⟩ := drop_at hdr
    have hil := (List.getElem?_eq_some_iff.mp hai).1
    have hmM := List.mem_of_getElem? hai
    have hmS := hd.2.mem_iff.mp hmM
    have hwm := dRel_W hd m hmM
    have hf2 : T.length < g := by simp at hf; omega
    have mem : ∀ y, y ∈ M.take (i + 1) ↔ y ∈ M.take i ∨ y = m := fun y => by
      rw [List.take_add_one, hai, List.mem_append]
      simp
    have hx63 : x < 2 ^ 63 := by
      rcases hc with ⟨e, -⟩ | ⟨e, -⟩
      · omega
      · have := (dRel_W hd x (List.mem_of_mem_take e.1)).2.1
        omega
    have skip : selB u b B m = false → isBest u b (fun m => m ∈ M.take (i + 1) ∧ selB u b B m = true) x := fun hs => by
      have hA : ∀ y, (y ∈ M.take (i + 1) ∧ selB u b B y = true) ↔ (y ∈ M.take i ∧ selB u b B y = true) := fun y => by
        constructor
        · rintro ⟨p, q⟩
          rcases (mem y).mp p with z | z
          · exact ⟨z, q⟩
          · rw [z, hs] at q; cases q
        · rintro ⟨p, q⟩
          exact ⟨(mem y).mpr (Or.inl p), q⟩
      rcases hc with ⟨e, hno⟩ | ⟨e, hall⟩
      · exact Or.inl ⟨e, fun y hy => hno y ((hA y).mp hy)⟩
      · exact Or.inr ⟨(hA x).mpr e, fun y hy => hall y ((hA y).mp hy)⟩
    unfold P_X9_best_L5
    rw [nI_clamp (by omega), hf6 i m hai, ← nI_succ]
    refine ⟨fun z => absurd z (nI_ge hil (by omega)), fun _ => ⟨nI_in (by omega) (by omega), p_xref hwm hB hr hd hu hb (fun sp1 co1 w1 _ => ⟨fun z => ?_, fun z => ?_⟩)⟩⟩
    · have z' : refN S u b B m = 0 := (neq (b := 0) (by have := ref_le (S := S) (u := u) (b := b) (B := B) (n := m); omega) (by omega)).mp z
      have hs := (ref_sel hmS).mp z'
      refine ⟨fun e => ⟨nI_in (by omega) (by omega), fun y hy => ?_⟩, fun e => ⟨nI_in (by omega) (by omega), ?_⟩⟩
      · have ex := (lN_ne0 hx63).mp e
        rw [hy]
        refine ih (i + 1) g m _ _ _ _ hd2 (by omega) hf2 (Or.inr ⟨⟨(mem m).mpr (Or.inr rfl), hs⟩, fun y hy => ?_⟩)
        rcases (mem y).mp hy.1 with q | q
        · rcases hc with ⟨-, hno⟩ | ⟨e2, -⟩
          · exact absurd ⟨q, hy.2⟩ (hno y)
          · have := (dRel_W hd x (List.mem_of_mem_take e2.1)).1
            omega
        · exact Or.inl q
      · have ex : x ≠ 0 := fun q => e ((lN_ne0 hx63).mpr q)
        rcases hc with ⟨e2, -⟩ | ⟨e2, hall⟩
        · exact absurd e2 ex
        · have hwx := dRel_W hd x (List.mem_of_mem_take e2.1)
          refine p_xbetter hwm hwx hu hb (sel_ok hs) (sel_ok e2.2) (fun hbt a2 sp2 co2 w2 => ⟨fun q => absurd q (by decide), fun _ => ⟨nI_in (by omega) (by omega), fun y hy => ?_⟩⟩) (fun hbt a2 sp2 co2 w2 => ⟨fun _ => ?_, fun q => absurd rfl q⟩)
          · rw [hy]
            refine ih (i + 1) g m _ _ _ _ hd2 (by omega) hf2 (Or.inr ⟨⟨(mem m).mpr (Or.inr rfl), hs⟩, fun y hy => ?_⟩)
            rcases (mem y).mp hy.1 with q | q
            · rcases hall y ⟨q, hy.2⟩ with d | d
              · rw [d]; exact Or.inr hbt
              · exact Or.inr (bett_tr hbt d)
            · exact Or.inl q
          · refine ih (i + 1) g x _ _ _ _ hd2 (by omega) hf2 (Or.inr ⟨⟨(mem x).mpr (Or.inl e2.1), e2.2⟩, fun y hy => ?_⟩)
            rcases (mem y).mp hy.1 with q | q
            · exact hall y ⟨q, hy.2⟩
            · rw [q]; exact bett_tot hwx hwm hbt
    · have z' : refN S u b B m ≠ 0 := fun q => z (by rw [q]; rfl)
      have hs : selB u b B m = false := by
        cases hq : selB u b B m with
        | false => rfl
        | true => exact absurd ((ref_sel hmS).mpr hq) z'
      exact ih (i + 1) g x _ _ _ _ hd2 (by omega) hf2 (skip hs)
theorem isBest_S {S M : List Nat} (hd : dRel S M) {u b : Nat → Nat} {B x : Nat} : isBest u b (fun m => m ∈ M ∧ selB u b B m = true) x ↔ isBest u b (fun m => m ∈ S ∧ selB u b B m = true) x := by
  have e : (fun m => m ∈ M ∧ selB u b B m = true) = (fun m => m ∈ S ∧ selB u b B m = true) := by
    funext m
    rw [hd.2.mem_iff]
  rw [e]
theorem p_xbest {B : Nat} (hB : B < 2 ^ 31) {v1 : Int32} {v6 : Nat → Int64} {S M : List Nat} (hr : rowIs v1 v6 M) (hd : dRel S M) {v7 v8 : Nat → Int32} {u b : Nat → Nat} (hu : isU v7 u) (hb : isB v8 b) {v0 v2 v3 v4 v5 : Int32} {v9 v10 v11 : Nat → Int32} {post : Int64 → Int32 → (Nat → Int32) → (Nat → Int32) → (Nat → Int32) → Prop}
    (h : ∀ x : Nat, isBest u b (fun m => m ∈ S ∧ selB u b B m = true) x → ∀ a sp co w, post (lN x) a sp co w) : P_X9_best post (nI B) v0 v1 v2 v3 v4 v5 v6 v7 v8 v9 v10 v11 := by
  have h60 := hr.2.1
  have key := p_xbestL hB hr hd hu hb (v0 := v0) (v2 := v2) (v3 := v3) (v5 := v5) (K := fun (x13 : Int64) (w14 : Int32) (w15 : Nat → Int32) (w16 : Nat → Int32) (w17 : Nat → Int32) => post x13 w14 w15 w16 w17) (fun x hx => h x ((isBest_S hd).mp hx)) M 0 FU 0 v4 v9 v10 v11 rfl (Nat.zero_le _) (FU_s _ (by omega)) (Or.inl ⟨rfl, fun m hm => by simp at hm⟩)
  have e : lN 0 = 0 := rfl
  rw [e, nI_0] at key
  exact key
