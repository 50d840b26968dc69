/-! The class's public methods: each answers, keeps the tables sound, throws only what its head tells, and costs a cell and six slots at most, but for the growing row of parts. -/
section
variable {σ : StL} {n g d : Nat}
theorem kG_refl0 {τ : StT} : kG τ τ 0 0 := ⟨by omega, by omega⟩
theorem s_L_declare (h : kL σ n g d) (x1 x2 : Int32) : k_ok (f_L_declare σ x1 x2) (fun r => ((n = 30 ∨ (¬ x2 = 0 ∧ 6 ≤ g)) → r = (.inr 2, σ, 1, 6)) ∧ (¬ (n = 30 ∨ (¬ x2 = 0 ∧ 6 ≤ g)) → r.1 = .inl (nI n) ∧ kL r.2.1 (n + 1) (if x2 = 0 then g else g + 1) d ∧ L_types r.2.1 = L_types σ ∧ r.2.2 = (0, 0))) := by
  have hn := h.2.2.1.2.1
  have hg := h.2.2.1.2.2.2.2
  have en : f_C_count (L_classes σ) = nI n := h.2.2.1.1
  have eg : f_C_countGeneric (L_classes σ) = nI g := h.2.2.1.2.2.2.1
  have k48 : n < 30 → k_ok (f_L_declare_48 σ x1 x2) (fun r => r.1 = .inl (nI n) ∧ kL r.2.1 (n + 1) (if x2 = 0 then g else g + 1) d ∧ L_types r.2.1 = L_types σ ∧ r.2.2 = (0, 0)) := by
    intro hlt
    unfold f_L_declare_48
    refine k_bind (s_C_add h.2.2.1 hlt _ _) ?_
    rintro ⟨v, τ⟩ ⟨e, hk⟩
    replace e : v = nI n := e
    subst e
    exact k_some ⟨rfl, ⟨h.1, h.2.1, hk, h.2.2.2⟩, rfl, rfl⟩
  unfold f_L_declare
  rw [en, eg]
  refine k_if (fun h1 => ?_) (fun h1 => ?_)
  · have h2 : nI n < nI 30 := h1
    rw [nI_ltI (by omega) (by decide)] at h2
    refine k_if (fun h3 => ?_) (fun h3 => ?_)
    · have nc : ¬ (n = 30 ∨ (¬ x2 = 0 ∧ 6 ≤ g)) := by
        rintro (q | ⟨q, _⟩)
        · omega
        · exact q h3
      exact k_mono (k48 h2) (fun r hr => ⟨fun q => absurd q nc, fun _ => hr⟩)
    · refine k_if (fun h4 => ?_) (fun h4 => ?_)
      · have h5 : nI g < nI 6 := h4
        rw [nI_ltI (by omega) (by decide)] at h5
        have nc : ¬ (n = 30 ∨ (¬ x2 = 0 ∧ 6 ≤ g)) := by rintro (q | ⟨_, q⟩) <;> omega
        exact k_mono (k48 h2) (fun r hr => ⟨fun q => absurd q nc, fun _ => hr⟩)
      · have h5 : ¬ nI g < nI 6 := h4
        rw [nI_ltI (by omega) (by decide)] at h5
        have yc : n = 30 ∨ (¬ x2 = 0 ∧ 6 ≤ g) := Or.inr ⟨h3, by omega⟩
        exact k_some ⟨fun _ => rfl, fun q => absurd yc q⟩
  · have h2 : ¬ nI n < nI 30 := h1
    rw [nI_ltI (by omega) (by decide)] at h2
    have yc : n = 30 ∨ (¬ x2 = 0 ∧ 6 ≤ g) := Or.inl (by omega)
    exact k_some ⟨fun _ => rfl, fun q => absurd yc q⟩
theorem s_L_above (h : kL σ n g d) (x1 x2 : Int32) : k_ok (f_L_above σ x1 x2) (kQ σ n g d [1, 2, 3]) := by
  have k14 : k_ok (f_L_above_14 σ x1 x2) (kQ σ n g d [1, 2, 3]) := by
    unfold f_L_above_14
    refine k_bind (s_C_mayGet h.2.2.1 _) ?_
    intro r2 _
    refine k_if (fun _ => k_some (kQ_thr h (by decide))) (fun _ => ?_)
    refine k_bind (s_L_isTellable h _ _) ?_
    intro r3 _
    refine k_if (fun _ => k_some (kQ_thr h (by decide))) (fun _ => ?_)
    refine k_bind (s_C_clashes h.2.2.1 _ _) ?_
    intro r4 _
    refine k_if (fun _ => ?_) (fun _ => k_some (kQ_thr h (by decide)))
    refine k_bind (s_A_forget _) ?_
    intro r5 _
    refine k_bind (s_C_put (σ := L_classes (L_set_answers σ r5.2)) h.2.2.1 _ _) ?_
    rintro ⟨v, τ⟩ hτ
    refine k_some ⟨(fun k e => nomatch e), ⟨h.1, h.2.1, hτ, h.2.2.2⟩, ?_, ?_⟩
    · show 0 + (T_parts (L_types σ)).1 ≤ 1 + (T_parts (L_types σ)).1
      omega
    · show 0 + 2 * (T_parts (L_types σ)).1 ≤ 6 + 2 * (T_parts (L_types σ)).1
      omega
  unfold f_L_above
  refine k_rc (fun _ => k_ad (k_some (kQ_thr' h (by decide)))) (fun _ => k_ad ?_)
  refine k_if (fun _ => k_mono k14 (fun r hr => hr)) (fun _ => ?_)
  refine k_rt (fun _ => k_ad (k_some (kQ_thr' h (by decide)))) (fun _ => k_ad ?_)
  exact k_mono k14 (fun r hr => hr)
theorem s_L_named (h : kL σ n g d) (x1 x2 x3 : Int32) : k_ok (f_L_named σ x1 x2 x3) (kQ σ n g d [1, 2, 3]) := by
  obtain ⟨t, ht⟩ := h.2.2.2
  have k89 : k_ok (f_L_named_89 σ x1 x2 x3) (kQ σ n g d [1, 2, 3]) := by
    unfold f_L_named_89
    refine k_bind (s_T_makeNamed ht _ _) ?_
    rintro ⟨v, τ⟩ ⟨hk, hp⟩
    have hG : kG (L_types σ) (L_types (L_set_types σ τ)) 0 0 := kG_eq hp
    exact k_mono (k_end (es := [1, 2, 3]) (kL_types h hk) hG (by decide)) (fun r hr => hr)
  have k53 : k_ok (f_L_named_53 σ) (kQ σ n g d [1, 2, 3]) := k_some (kQ_thr h (by decide))
  have k40 : ∀ y : Int32, k_ok (f_L_named_40 σ x1 x2 x3 y) (kQ σ n g d [1, 2, 3]) := by
    intro y
    unfold f_L_named_40
    refine k_bind (s_C_isGeneric h.2.2.1 _) ?_
    intro r2 _
    refine k_if (fun _ => ?_) (fun _ => k53)
    refine k_if (fun _ => k89) (fun _ => ?_)
    refine k_bind (s_T_kindOf ht _) ?_
    intro r5 _
    exact k_if (fun _ => k_some (kQ_thr h (by decide))) (fun _ => k89)
  have k29 : ∀ y : Int32, k_ok (f_L_named_29 σ x1 x2 x3 y) (kQ σ n g d [1, 2, 3]) := by
    intro y
    unfold f_L_named_29
    exact k_if (fun _ => k_if (fun _ => k40 _) (fun _ => k53)) (fun _ => k40 _)
  have k14 : k_ok (f_L_named_14 σ x1 x2 x3) (kQ σ n g d [1, 2, 3]) := by
    unfold f_L_named_14 f_L_named_24
    exact k_if (fun _ => k29 _) (fun _ => k_if (fun _ => k29 _) (fun _ => k29 _))
  unfold f_L_named
  refine k_rc (fun _ => k_ad (k_some (kQ_thr' h (by decide)))) (fun _ => k_ad ?_)
  refine k_if (fun _ => k_mono k14 (fun r hr => hr)) (fun _ => ?_)
  refine k_rt (fun _ => k_ad (k_some (kQ_thr' h (by decide)))) (fun _ => k_ad ?_)
  exact k_mono k14 (fun r hr => hr)
theorem s_L_array (h : kL σ n g d) (x1 : Int32) : k_ok (f_L_array σ x1) (kQ σ n g d [1, 2]) := by
  obtain ⟨t, ht⟩ := h.2.2.2
  unfold f_L_array
  refine k_rt (fun _ => k_ad (k_some (kQ_thr' h (by decide)))) (fun _ => k_ad ?_)
  refine k_bind (s_T_makeArray ht _) ?_
  rintro ⟨v, τ⟩ ⟨hk, hp⟩
  have hG : kG (L_types σ) (L_types (L_set_types σ τ)) 0 0 := kG_eq hp
  exact k_mono (k_end (es := [1, 2]) (kL_types h hk) hG (by decide)) (fun r hr => hr)
theorem s_L_upper (h : kL σ n g d) (x1 x2 : Int32) : k_ok (f_L_upper σ x1 x2) (kQ σ n g d [1, 2]) := by
  unfold f_L_upper
  refine k_rt (fun _ => k_ad (k_some (kQ_thr' h (by decide)))) (fun _ => k_ad ?_)
  refine k_rt (fun _ => k_ad (k_some (kQ_thr' h (by decide)))) (fun _ => k_ad ?_)
  have hd := h.2.1
  have e : L_depth σ = nI d := h.1
  rw [show L_depth ((Sum.inl (0 : Int32) : Int32 ⊕ Nat), σ, 0, 0).2.1 = nI d from e]
  refine k_bind (s_L_upperBound 3 (by omega) σ x1 x2 d h (by omega)) ?_
  rintro ⟨v, τ, K, N⟩ ⟨⟨w, e⟩, hτ, hG⟩
  replace e : v = .inl w := e
  subst e
  refine k_ad ?_
  exact k_mono (k_end (es := [1, 2]) hτ hG (by decide)) (fun r hr => hr)
theorem s_L_lower (h : kL σ n g d) (x1 x2 : Int32) : k_ok (f_L_lower σ x1 x2) (kQ σ n g d [1, 2]) := by
  have ret : ∀ (τ : StL) (v : Int32), kL τ n g d → T_parts (L_types τ) = T_parts (L_types σ) → kQ σ n g d [1, 2] (.inl v, τ, 0, 0) := by
    intro τ v hτ hp
    refine ⟨(fun k e => nomatch e), hτ, ?_, ?_⟩
    · show 0 + (T_parts (L_types σ)).1 ≤ 1 + (T_parts (L_types τ)).1
      rw [hp]; omega
    · show 0 + 2 * (T_parts (L_types σ)).1 ≤ 6 + 2 * (T_parts (L_types τ)).1
      rw [hp]; omega
  unfold f_L_lower
  refine k_rt (fun _ => k_ad (k_some (kQ_thr' h (by decide)))) (fun _ => k_ad ?_)
  refine k_rt (fun _ => k_ad (k_some (kQ_thr' h (by decide)))) (fun _ => k_ad ?_)
  refine k_bind (s_L_below100 h _ _) ?_
  rintro ⟨v3, σ3⟩ ⟨⟨h3, p3⟩, _⟩
  refine k_if (fun _ => ?_) (fun _ => k_some (ret σ3 _ h3 p3))
  refine k_bind (s_L_below100 h3 _ _) ?_
  rintro ⟨v4, σ4⟩ ⟨⟨h4, p4⟩, _⟩
  replace h4 : kL σ4 n g d := h4
  replace p4 : T_parts (L_types σ4) = T_parts (L_types σ) := p4.trans p3
  refine k_if (fun _ => ?_) (fun _ => k_some (ret σ4 _ h4 p4))
  refine k_bind (s_L_gatherParts h4 _ _) ?_
  rintro ⟨v5, σ5⟩ ⟨⟨h5, p5⟩, ⟨c, hc, e⟩⟩
  replace e : v5 = nI c := e
  subst e
  replace p5 : T_parts (L_types σ5) = T_parts (L_types σ) := p5.trans p4
  refine k_bind (s_L_dropNeedless_4 hc 1000 0 0 σ5 h5 (by omega) (by omega) (by omega)) ?_
  rintro ⟨v6, σ6⟩ ⟨⟨h6, p6⟩, ⟨c6, hc6, e⟩⟩
  replace e : v6 = nI c6 := e
  subst e
  replace h6 : kL σ6 n g d := h6
  replace p6 : T_parts (L_types σ6) = T_parts (L_types σ) := p6.trans p5
  refine k_bind (P := fun r => kS σ6 n g d r) ?_ ?_
  · unfold f_L_orderByClass
    have hL : kL (L_set_row σ6 (J_fill (L_row σ6) 90 (-1 : Int32))) n g d := h6
    exact s_L_orderByClass_12 hc6 1000 0 _ _ hL (by omega) (by omega)
  rintro ⟨v7, σ7⟩ ⟨h7, p7⟩
  replace h7 : kL σ7 n g d := h7
  replace p7 : T_parts (L_types σ7) = T_parts (L_types σ) := p7.trans p6
  refine k_if (fun _ => k_some (ret σ7 _ h7 p7)) (fun _ => ?_)
  obtain ⟨t, ht⟩ := h7.2.2.2
  refine k_bind (s_T_makeIntersection ht (a := 0) (by omega) (90, L_row σ7) rfl _) ?_
  rintro ⟨v8, τ, K, N⟩ ⟨⟨w, e⟩, hτ, hG⟩
  replace e : v8 = .inl w := e
  subst e
  refine k_ad ?_
  have hG' : kG (L_types σ) (L_types (L_set_types σ7 τ)) K N := by
    have hG2 : kG (L_types σ7) τ K N := hG
    unfold kG at hG2 ⊢
    rw [p7] at hG2
    exact hG2
  exact k_mono (k_end (es := [1, 2]) (kL_types h7 hτ) hG' (by decide)) (fun r hr => hr)
theorem s_L_isBelow (h : kL σ n g d) (x1 x2 : Int32) : k_ok (f_L_isBelow σ x1 x2) (kQ σ n g d [1]) := by
  unfold f_L_isBelow
  refine k_rt (fun _ => k_ad (k_some (kQ_thr' h (by decide)))) (fun _ => k_ad ?_)
  refine k_rt (fun _ => k_ad (k_some (kQ_thr' h (by decide)))) (fun _ => k_ad ?_)
  refine k_bind (s_L_below100 h _ _) ?_
  rintro ⟨v3, σ3⟩ ⟨⟨h3, p3⟩, _⟩
  replace p3 : T_parts (L_types σ3) = T_parts (L_types σ) := p3
  refine k_some ⟨(fun k e => nomatch e), h3, ?_, ?_⟩
  · show 0 + 0 + 0 + (T_parts (L_types σ)).1 ≤ 1 + (T_parts (L_types σ3)).1
    rw [p3]; omega
  · show 0 + 0 + 0 + 2 * (T_parts (L_types σ)).1 ≤ 6 + 2 * (T_parts (L_types σ3)).1
    rw [p3]; omega
theorem s_L_look (h : kL σ n g d) (x1 x2 : Int32) : k_ok (f_L_look σ x1 x2) (kQ σ n g d [1, 2]) := by
  obtain ⟨t, ht⟩ := h.2.2.2
  unfold f_L_look
  refine k_rt (fun _ => k_ad (k_some (kQ_thr' h (by decide)))) (fun _ => k_ad ?_)
  refine k_rc (fun _ => k_ad (k_some (kQ_thr' h (by decide)))) (fun _ => k_ad ?_)
  refine k_bind (s_L_find h _ _) ?_
  intro r3 _
  refine k_if (fun _ => k_some (kQ_ret h)) (fun _ => ?_)
  refine k_bind (s_T_makeNamed ht _ _) ?_
  rintro ⟨v, τ⟩ ⟨hk, hp⟩
  have hG : kG (L_types σ) (L_types (L_set_types σ τ)) 0 0 := kG_eq hp
  exact k_mono (k_end (es := [1, 2]) (kL_types h hk) hG (by decide)) (fun r hr => hr)
theorem s_L_box (h : kL σ n g d) (x1 : Int32) : k_ok (f_L_box σ x1) (kQ σ n g d [1]) := by
  obtain ⟨t, ht⟩ := h.2.2.2
  unfold f_L_box
  refine k_rt (fun _ => k_ad (k_some (kQ_thr' h (by decide)))) (fun _ => k_ad ?_)
  refine k_bind (s_T_kindOf ht _) ?_
  intro r2 _
  exact k_if (fun _ => k_some (kQ_ret h)) (fun _ => k_some (kQ_ret h))
theorem s_L_type (h : kL σ n g d) (x1 x2 : Int32) : k_ok (f_L_type σ x1 x2) (kQ σ n g d [1, 3]) := by
  obtain ⟨t, ht⟩ := h.2.2.2
  unfold f_L_type
  refine k_rt (fun _ => k_ad (k_some (kQ_thr' h (by decide)))) (fun _ => k_ad ?_)
  refine k_if (fun _ => k_bind (s_T_kindOf ht _) (fun _ _ => k_some (kQ_ret h))) (fun _ => ?_)
  refine k_if (fun _ => k_bind (s_T_classOf ht _) (fun _ _ => k_some (kQ_ret h))) (fun _ => ?_)
  refine k_if (fun _ => k_bind (s_T_argumentAt ht _) (fun _ _ => k_some (kQ_ret h))) (fun _ => ?_)
  refine k_if (fun _ => k_bind (s_T_kindOf ht _) (fun _ _ => k_if (fun _ => k_bind (s_T_elementOf ht _) (fun _ _ => k_some (kQ_ret h))) (fun _ => k_bind (s_T_argumentAt ht _) (fun _ _ => k_some (kQ_ret h))))) (fun _ => ?_)
  refine k_if (fun _ => k_bind (s_T_countParts ht _) (fun _ _ => k_some (kQ_ret h))) (fun _ => ?_)
  exact k_if (fun _ => k_bind (s_T_sizeOf ht _) (fun _ _ => k_some (kQ_ret h))) (fun _ => k_some (kQ_thr h (by decide)))
theorem s_L_part (h : kL σ n g d) (x1 x2 : Int32) : k_ok (f_L_part σ x1 x2) (kQ σ n g d [1]) := by
  obtain ⟨t, ht⟩ := h.2.2.2
  unfold f_L_part f_L_part_21
  refine k_rt (fun _ => k_ad (k_some (kQ_thr' h (by decide)))) (fun _ => k_ad ?_)
  refine k_if (fun _ => k_some (kQ_thr h (by decide))) (fun _ => ?_)
  refine k_bind (s_T_countParts ht _) ?_
  intro r2 _
  exact k_if (fun _ => k_bind (s_T_partOf ht _ _) (fun _ _ => k_some (kQ_ret h))) (fun _ => k_some (kQ_thr h (by decide)))
theorem s_L_common (h : kL σ n g d) (x1 x2 x3 : Int32) : k_ok (f_L_common σ x1 x2 x3) (kQ σ n g d [1, 3]) := by
  unfold f_L_common
  refine k_rt (fun _ => k_ad (k_some (kQ_thr' h (by decide)))) (fun _ => k_ad ?_)
  refine k_rt (fun _ => k_ad (k_some (kQ_thr' h (by decide)))) (fun _ => k_ad ?_)
  refine k_if (fun _ => k_bind (s_L_commonOf h _ _) (fun _ _ => k_some (kQ_ret h))) (fun _ => ?_)
  exact k_if (fun _ => k_bind (s_L_commonOf h _ _) (fun _ _ => k_bind (s_C_leastOf h.2.2.1 _) (fun _ _ => k_some (kQ_ret h)))) (fun _ => k_some (kQ_thr h (by decide)))
theorem s_L_isUnder (h : kL σ n g d) (x1 x2 : Int32) : k_ok (f_L_isUnder σ x1 x2) (kQ σ n g d [1]) := by
  unfold f_L_isUnder
  refine k_rc (fun _ => k_ad (k_some (kQ_thr' h (by decide)))) (fun _ => k_ad ?_)
  refine k_rc (fun _ => k_ad (k_some (kQ_thr' h (by decide)))) (fun _ => k_ad ?_)
  exact k_bind (s_C_aboveOf h.2.2.1 _) (fun _ _ => k_some (kQ_ret h))
theorem s_L_classed (h : kL σ n g d) (x1 x2 : Int32) : k_ok (f_L_classed σ x1 x2) (kQ σ n g d [1, 3]) := by
  unfold f_L_classed
  refine k_rc (fun _ => k_ad (k_some (kQ_thr' h (by decide)))) (fun _ => k_ad ?_)
  refine k_if (fun _ => k_bind (s_C_isFace h.2.2.1 _) (fun _ _ => k_if (fun _ => k_some (kQ_ret h)) (fun _ => k_some (kQ_ret h)))) (fun _ => ?_)
  refine k_if (fun _ => k_bind (s_C_isGeneric h.2.2.1 _) (fun _ _ => k_if (fun _ => k_some (kQ_ret h)) (fun _ => k_some (kQ_ret h)))) (fun _ => ?_)
  refine k_if (fun _ => k_bind (s_C_countDirect h.2.2.1 _) (fun _ _ => k_some (kQ_ret h))) (fun _ => ?_)
  exact k_if (fun _ => k_bind (s_C_aboveOf h.2.2.1 _) (fun _ _ => k_some (kQ_ret h))) (fun _ => k_some (kQ_thr h (by decide)))
theorem s_L_direct (h : kL σ n g d) (x1 x2 x3 : Int32) : k_ok (f_L_direct σ x1 x2 x3) (kQ σ n g d [1, 3]) := by
  unfold f_L_direct f_L_direct_21
  refine k_rc (fun _ => k_ad (k_some (kQ_thr' h (by decide)))) (fun _ => k_ad ?_)
  refine k_if (fun _ => k_some (kQ_thr h (by decide))) (fun _ => ?_)
  refine k_bind (s_C_countDirect h.2.2.1 _) ?_
  intro r2 _
  refine k_if (fun _ => ?_) (fun _ => k_some (kQ_thr h (by decide)))
  refine k_if (fun _ => k_bind (s_C_directAt h.2.2.1 _ _) (fun _ _ => k_some (kQ_ret h))) (fun _ => ?_)
  exact k_if (fun _ => k_bind (s_C_toldAt h.2.2.1 _ _) (fun _ _ => k_some (kQ_ret h))) (fun _ => k_some (kQ_thr h (by decide)))
theorem s_L_told (h : kL σ n g d) (x1 : Int32) : k_ok (f_L_told σ x1) (kQ σ n g d [3]) := by
  unfold f_L_told
  exact k_if (fun _ => k_some (kQ_ret h)) (fun _ => k_if (fun _ => k_some (kQ_ret h)) (fun _ => k_if (fun _ => k_some (kQ_ret h)) (fun _ => k_if (fun _ => k_some (kQ_ret h)) (fun _ => k_some (kQ_thr h (by decide))))))
end
