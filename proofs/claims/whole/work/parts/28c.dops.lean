/-! taking words out; the words asked for by index -/
theorem p_crem {p : Int64} {c : Int32} {f : Nat → Int64} {S : List Nat} (hr : rowIs c f S) (hd : dicS S) {post : Int32 → Int32 → (Nat → Int64) → Prop} {postX : String → Int32 → (Nat → Int64) → Prop}
    (h1 : ∀ n : Nat, p = lN n → isW n → n ∈ S → ∀ f', rowIs (nI (S.length - 1)) f' (delS S n) → post (nI (S.length - 1)) (nI (S.length - 1)) f') (hi : ¬ isWd p → postX sIAE c f) (h2 : ∀ n : Nat, p = lN n → isW n → n ∉ S → postX sNSE c f) : P_X8_removeWord post postX p c f := by
  refine p_reqWord (fun hw => ?_) hi
  obtain ⟨n, rfl, hw⟩ := hw
  refine p_contains hr hd hw (fun hm => ⟨fun q => absurd q (by decide), fun _ => p_ddelete hr hd hm (fun c' f' hr' => ?_)⟩) (fun hm => ⟨fun _ => h2 n rfl hw hm, fun q => absurd rfl q⟩)
  have e : c' = nI (S.length - 1) := by rw [hr'.1, delS_len hd hm]
  subst e
  exact h1 n rfl hw hm f' hr'
def gapM (M : List Nat) (k z : Nat) : List Nat := (M.take (M.length - 1)).set k z
theorem gap_perm {M : List Nat} {k n z : Nat} (hk : M[k]? = some n) (hz : M[M.length - 1]? = some z) : (n :: gapM M k z).Perm M := by
  have hkl := (List.getElem?_eq_some_iff.mp hk).1
  have hM : M = M.take (M.length - 1) ++ [z] := by
    have := del_split hz
    rw [List.drop_of_length_le (by omega)] at this
    exact this
  unfold gapM
  have hA : (M.take (M.length - 1)).length = M.length - 1 := by rw [List.length_take]; omega
  by_cases e : k = M.length - 1
  · rw [List.set_eq_of_length_le (by omega)]
    rw [e, hz] at hk
    have := Option.some.inj hk
    subst this
    conv => rhs; rw [hM]
    exact (List.perm_append_singleton _ _).symm
  · have hkA : (M.take (M.length - 1))[k]? = some n := by rw [List.getElem?_take_of_lt (by omega)]; exact hk
    have hs := del_split hkA
    rw [List.set_eq_take_append_cons_drop, if_pos (by omega)]
    conv => rhs; rw [hM, hs]
    generalize (M.take (M.length - 1)).take k = P
    generalize (M.take (M.length - 1)).drop (k + 1) = Q
    have a : (n :: (P ++ z :: Q)).Perm (n :: z :: (P ++ Q)) := List.perm_middle.cons n
    have b : ((P ++ n :: Q) ++ [z]).Perm (z :: n :: (P ++ Q)) := (List.perm_append_singleton z (P ++ n :: Q)).trans (List.perm_middle.cons z)
    exact a.trans ((List.Perm.swap z n (P ++ Q)).trans b.symm)
theorem dRel_del {S M : List Nat} (hd : dRel S M) {n k z : Nat} (hm : n ∈ S) (hk : M[k]? = some n) (hz : M[M.length - 1]? = some z) : dRel (delS S n) (gapM M k z) := by
  refine ⟨(dicS_del hd.1 hm).1, ?_⟩
  have hs := del_split (plc_mem hd.1 hm)
  have h2 : S.Perm (n :: delS S n) := by
    unfold delS delAt
    conv => lhs; rw [hs]
    exact List.perm_middle
  exact ((gap_perm hk hz).trans (hd.2.trans h2)).cons_inv
theorem p_xrem {p : Int64} {v1 : Int32} {v6 : Nat → Int64} {M : List Nat} (hr : rowIs v1 v6 M) (hM : ∀ m ∈ M, isW m) {v0 v2 v3 v4 v5 : Int32} {post : Int32 → Int32 → Int32 → (Nat → Int64) → Prop}
    (h1 : ∀ n k z : Nat, p = lN n → isW n → M[k]? = some n → M[M.length - 1]? = some z → ∀ f', rowIs (nI (M.length - 1)) f' (gapM M k z) → post (nI (M.length - 1)) 0 (nI (M.length - 1)) f') (hi : ¬ isWd p → post 0 1 v1 v6) (h2 : ∀ n : Nat, p = lN n → isW n → n ∉ M → post 0 2 v1 v6) : P_X9_removeWord post p v0 v1 v2 v3 v4 v5 v6 := by
  have h60 := hr.2.1
  have hc := hr.1
  refine p_xisW (fun hw => ?_) (fun hw => p_good0 ⟨fun _ => hi hw, fun q => absurd rfl q⟩)
  obtain ⟨n, rfl, hw⟩ := hw
  refine p_good1 ⟨fun q => absurd q (by decide), fun _ => p_xplace hr hM hw (fun k hk60 hk => ⟨fun q => absurd q (nI_m1 (by omega)), fun _ => ?_⟩) (fun hm => ⟨fun _ => h2 n rfl hw hm, fun q => absurd rfl q⟩)⟩
  have hkl := (List.getElem?_eq_some_iff.mp hk).1
  have hz : M[M.length - 1]? = some M[M.length - 1] := List.getElem?_eq_getElem (by omega)
  have e1 : v1 - 1 = nI (M.length - 1) := by
    rw [hc, show M.length = M.length - 1 + 1 by omega, nI_succ, Int32.add_sub_cancel]
    rfl
  rw [e1]
  have ck : (nI k).toNatClampNeg = k := nI_clamp (by omega)
  have cl : (nI (M.length - 1)).toNatClampNeg = M.length - 1 := nI_clamp (by omega)
  rw [ck, cl]
  have hlen : (gapM M k M[M.length - 1]).length = M.length - 1 := by unfold gapM; rw [List.length_set, List.length_take]; omega
  refine ⟨nI_in (by omega) (by omega), nI_in (by omega) (by omega), h1 n k _ rfl hw hk hz _ ⟨by rw [hlen], by rw [hlen]; omega, fun i m hi' => ?_⟩⟩
  have hil := (List.getElem?_eq_some_iff.mp hi').1
  rw [hlen] at hil
  unfold vp_updL
  unfold gapM at hi'
  by_cases e : i = k
  · rw [if_pos e]
    rw [e, List.getElem?_set_self (by rw [List.length_take]; omega)] at hi'
    rw [← Option.some.inj hi']
    exact hr.2.2 _ _ hz
  · rw [if_neg e]
    rw [List.getElem?_set_ne (fun q => e q.symm), List.getElem?_take_of_lt (by omega)] at hi'
    exact hr.2.2 i m hi'
theorem p_xwordAt {p : Int32} {v1 : Int32} {v6 : Nat → Int64} {S M : List Nat} (hr : rowIs v1 v6 M) (hd : dRel S M) {v0 v2 v3 v4 v5 : Int32} {v7 : Nat → Int32} {post : Int64 → Int32 → Prop}
    (h1 : ∀ j n : Nat, p = nI j → S[j]? = some n → post (lN n) 0) (h0 : (∀ j : Nat, j < S.length → p ≠ nI j) → post 0 1) : P_X9_wordAt post p v0 v1 v2 v3 v4 v5 v6 v7 := by
  have e : S.filter (askB 0 0) = S := List.filter_eq_self.mpr (fun m _ => rfl)
  refine p_xnth (n := 0) (q := 0) (by omega) (fun z => absurd rfl z) hr hd (fun j m hj hm => ?_) (fun h => ?_)
  · rw [e] at hm
    have hw := hd.1.1 m (List.mem_of_getElem? hm)
    have hm63 := hw.2.1
    have hne : lN m ≠ 0 := fun q => by have := (lN_ne0 (n := m) (by omega)).mp q; have := hw.1; omega
    exact ⟨fun q => absurd q hne, fun _ => p_good1 ⟨fun q => absurd q (by decide), fun _ => h1 j m hj hm⟩⟩
  · rw [e] at h
    exact ⟨fun _ => p_good0 ⟨fun _ => h0 h, fun q => absurd rfl q⟩, fun q => absurd rfl q⟩
