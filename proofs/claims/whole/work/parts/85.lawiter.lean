/-! ===== one turn of the law's loop ===== -/
theorem nI_and31 (x : Int32) : ∃ k, k < 32 ∧ x &&& nI 31 = nI k := by
  refine ⟨(x &&& nI 31).toBitVec.toNat, ?_, ?_⟩
  · rw [Int32.toBitVec_and, BitVec.toNat_and]
    exact Nat.lt_of_le_of_lt Nat.and_le_right (by decide)
  · apply Int32.toBitVec_inj.mp
    show _ = BitVec.ofNat 32 _
    rw [BitVec.ofNat_toNat]
    simp
theorem nI_mid {x : Int32} {n : Nat} (hn : n < 2 ^ 31) (h : ¬ (x < 0 ∨ nI n ≤ x)) : ∃ q, q < n ∧ x = nI q := by
  have h1 : ¬ x < 0 := fun q => h (Or.inl q)
  have h2 : ¬ nI n ≤ x := fun q => h (Or.inr q)
  have e1 : 0 ≤ x.toInt := by
    have := Int32.not_lt.mp h1
    exact Int32.le_iff_toInt_le.mp this
  have e2 : x.toInt < n := by
    have := Int32.lt_iff_toInt_lt.mp (Int32.not_le.mp h2)
    rw [nI_toInt hn] at this
    exact this
  refine ⟨x.toInt.toNat, by omega, Int32.toInt_inj.mp ?_⟩
  rw [nI_toInt (by omega)]
  omega
theorem lw_gt {i L : Nat} (hi : i ≤ 3000) (hL : L ≤ 1536) : nI L - nI 3 < nI i ↔ L < i + 3 := by
  by_cases h : 3 ≤ L
  · obtain ⟨L0, rfl⟩ : ∃ a, L = a + 3 := ⟨L - 3, by omega⟩
    have e : nI (L0 + 3) - nI 3 = nI L0 := by
      rw [← nI_add L0 3]
      exact Int32.add_sub_cancel _ _
    rw [e, nI_ltI (by omega) (by omega)]
    omega
  · refine ⟨fun _ => by omega, fun _ => ?_⟩
    rw [Int32.lt_iff_toInt_lt, nI_toInt (by omega)]
    have : (nI L - nI 3).toInt < 0 := by
      rcases (by omega : L = 0 ∨ L = 1 ∨ L = 2) with rfl | rfl | rfl <;> decide
    omega
section ZLI
variable {p : Program} {l : Launch} {e : Env} {s : State} {m : MethodId} {below : List Frame} {meth : Method} {c : Code} {H : Heap} {locs : List Loc} {cells slots : Nat} {Q : State → Prop} {ls : Array Slot} {b L : Nat} {xs : Nat → Int32}
variable {D : va_G} {cy cl : ClassId} {h a0 a1 a2 o h2 b0 b1 b2 b3 b4 N : Nat} {f : Nat → Int32}
set_option maxHeartbeats 4000000 in
set_option maxRecDepth 100000 in
theorem lw_iter (C : lwC p s m c b L xs) (hK : va_K D vwCl [(cy, .int), (cl, .long)] s) (hTL : zThL s) (hfl : l.stackTraces = false) {i : Nat} (hi : i + 3 ≤ L) (hI : lwI D (lwAd s) h a0 a1 a2 cy o cl h2 b0 b1 b2 b3 b4 N f H) (hS : va_S (lwAd s) s.heap H locs) (hl : lv_has ls 9 [(0, .ref b), (1, .ref h), (2, .ref h2), (3, .ref o), (4, .int (nI i))]) (hnc : cells + 1 ≤ 1045) (hns : slots + 6 ≤ 8429)
    (K : ∀ (N1 : Nat) (f1 : Nat → Int32) (H1 : Heap) (locs1 : List Loc) (ls1 : Array Slot), lwI D (lwAd s) h a0 a1 a2 cy o cl h2 b0 b1 b2 b3 b4 N1 f1 H1 → va_S (lwAd s) s.heap H1 locs1 → lv_has ls1 9 [(0, .ref b), (1, .ref h), (2, .ref h2), (3, .ref o), (4, .int (nI (i + 3)))] → W p l e room_1 s m #[Value.ref b] below meth c H1 locs1 (cells + 1) (slots + 6) Q (F0 m 23 ls1 [])) : W p l e room_1 s m #[Value.ref b] below meth c H locs cells slots Q (F0 m 32 ls []) := by
  obtain ⟨hg, ec, cc, cs, tr, g, th, ds, de, cs2, be, lf, od, hcs, hec, hP, hD⟩ := hI
  obtain ⟨hx, hb, hml, hown, hts, hX, hbl, hL⟩ := id C
  have hN : N ≤ 20 := hg.1
  have hbA : ¬ lwAd s b := Nat.not_le.mpr hbl
  have K1 : ∀ (N1 : Nat) (f1 : Nat → Int32) (H1 : Heap) (locs1 : List Loc) (ls1 : Array Slot), lwI D (lwAd s) h a0 a1 a2 cy o cl h2 b0 b1 b2 b3 b4 N1 f1 H1 → va_S (lwAd s) s.heap H1 locs1 → lv_has ls1 9 [(0, .ref b), (1, .ref h), (2, .ref h2), (3, .ref o), (4, .int (nI i))] → W p l e room_1 s m #[Value.ref b] below meth c H1 locs1 (cells + 1) (slots + 6) Q (F0 m 1334 ls1 []) := by
    intro N1 f1 H1 locs1 ls1 hI1 hS1 hl1
    refine lv_iinc (v := nI (i + 3)) (lv' := [(4, .int (nI (i + 3))), (0, .ref b), (1, .ref h), (2, .ref h2), (3, .ref o)]) hx hb dL_law_1334 hl1 (k := 4) rfl (nI_add i 3) (by decide) rfl (fun ls2 hl2 => ?_)
    refine lv_goto (tgt := 23) hx hb dL_law_1337 (by decide) ?_
    exact K N1 f1 H1 locs1 ls2 hI1 hS1 (lv_sub hl2 [1, 2, 3, 4, 0] rfl)
  refine lv_aload_n hx hb dL_law_32 rfl (lv_at hl 0 rfl) ?_
  refine lv_iload hx hb dL_law_33 (lv_at hl 4 rfl) ?_
  refine z_sld hx hb hX hbl hbA hS (j := i) (by omega) hL dL_law_35 ?_
  refine lv_bipush (v := nI 31) hx hb dL_law_36 (by decide) ?_
  refine lv_iand hx hb dL_law_38 ?_
  obtain ⟨k, hk, ek⟩ := nI_and31 (xs i)
  rw [ek]
  rcases (by omega : k = 0 ∨ k = 1 ∨ k = 2 ∨ k = 3 ∨ k = 4 ∨ k = 5 ∨ k = 6 ∨ k = 7 ∨ k = 8 ∨ k = 9 ∨ k = 10 ∨ k = 11 ∨ k = 12 ∨ k = 13 ∨ k = 14 ∨ k = 15 ∨ k = 16 ∨ k = 17 ∨ k = 18 ∨ k = 19 ∨ k = 20 ∨ k = 21 ∨ k = 22 ∨ k = 23 ∨ k = 24 ∨ 25 ≤ k) with rfl | rfl | rfl | rfl | rfl | rfl | rfl | rfl | rfl | rfl | rfl | rfl | rfl | rfl | rfl | rfl | rfl | rfl | rfl | rfl | rfl | rfl | rfl | rfl | rfl | hk9
  · refine lv_tableIn (off := 113) (tgt := 152) hx hb dL_law_39 (by decide) (by decide) rfl (by decide) ?_
    by_cases hN2 : N = 20
    · exact lw_addNode_full C hK hTL hfl hi hg hcs hec hP hD hS hl hnc hns hN2 (K1 _ _)
    · exact lw_addNode_ok C hK hTL hfl hi hg hcs hec hP hD hS hl hnc hns (by omega) (K1 _ _)
  · refine lv_tableIn (off := 157) (tgt := 196) hx hb dL_law_39 (by decide) (by decide) rfl (by decide) ?_
    cases h1 : isNb (xs (i + 1)) N
    · exact lw_join_bad1 C hK hTL hfl hi hg hcs hec hP hD hS hl hnc hns h1 rfl rfl (K1 _ _)
    · obtain ⟨u, hu, e1⟩ := isNb_of hN h1
      cases h2 : isNb (xs (i + 2)) N
      · exact lw_join_bad2 C hK hTL hfl hi hg hcs hec hP hD hS hl hnc hns hu h2 e1 rfl (K1 _ _)
      · obtain ⟨v, hv, e2⟩ := isNb_of hN h2
        by_cases huv : u = v
        · subst huv
          exact lw_join_same C hK hTL hfl hi hg hcs hec hP hD hS hl hnc hns hu e1 e2 (K1 _ _)
        · cases he : bt (f u) v
          · exact lw_join_ok C hK hTL hfl hi hg hcs hec hP hD hS hl hnc hns hu hv huv he e1 e2 (K1 _ _)
          · exact lw_join_not C hK hTL hfl hi hg hcs hec hP hD hS hl hnc hns hu hv huv he e1 e2 (K1 _ _)
  · refine lv_tableIn (off := 225) (tgt := 264) hx hb dL_law_39 (by decide) (by decide) rfl (by decide) ?_
    cases h1 : isNb (xs (i + 1)) N
    · exact lw_part_bad1 C hK hTL hfl hi hg hcs hec hP hD hS hl hnc hns h1 rfl rfl (K1 _ _)
    · obtain ⟨u, hu, e1⟩ := isNb_of hN h1
      cases h2 : isNb (xs (i + 2)) N
      · exact lw_part_bad2 C hK hTL hfl hi hg hcs hec hP hD hS hl hnc hns hu h2 e1 rfl (K1 _ _)
      · obtain ⟨v, hv, e2⟩ := isNb_of hN h2
        by_cases huv : u = v
        · subst huv
          exact lw_part_same C hK hTL hfl hi hg hcs hec hP hD hS hl hnc hns hu e1 e2 (K1 _ _)
        · cases he : bt (f u) v
          · exact lw_part_not C hK hTL hfl hi hg hcs hec hP hD hS hl hnc hns hu hv huv he e1 e2 (K1 _ _)
          · exact lw_part_ok C hK hTL hfl hi hg hcs hec hP hD hS hl hnc hns hu hv huv he e1 e2 (K1 _ _)
  · refine lv_tableIn (off := 293) (tgt := 332) hx hb dL_law_39 (by decide) (by decide) rfl (by decide) ?_
    cases h1 : isNb (xs (i + 1)) N
    · exact lw_isolate_bad C hK hTL hfl hi hg hcs hec hP hD hS hl hnc hns h1 rfl (K1 _ _)
    · obtain ⟨u, hu, e1⟩ := isNb_of hN h1
      exact lw_isolate_ok C hK hTL hfl hi hg hcs hec hP hD hS hl hnc hns hu e1 (K1 _ _)
  · refine lv_tableIn (off := 349) (tgt := 388) hx hb dL_law_39 (by decide) (by decide) rfl (by decide) ?_
    exact lw_nodes C hK hTL hfl hi hg hcs hec hP hD hS hl hnc hns  (K1 _ _)
  · refine lv_tableIn (off := 362) (tgt := 401) hx hb dL_law_39 (by decide) (by decide) rfl (by decide) ?_
    exact lw_edges C hK hTL hfl hi hg hcs hec hP hD hS hl hnc hns  (K1 _ _)
  · refine lv_tableIn (off := 375) (tgt := 414) hx hb dL_law_39 (by decide) (by decide) rfl (by decide) ?_
    cases h1 : isNb (xs (i + 1)) N
    · exact lw_degree_bad C hK hTL hfl hi hg hcs hec hP hD hS hl hnc hns h1 rfl (K1 _ _)
    · obtain ⟨u, hu, e1⟩ := isNb_of hN h1
      exact lw_degree_ok C hK hTL hfl hi hg hcs hec hP hD hS hl hnc hns hu e1 (K1 _ _)
  · refine lv_tableIn (off := 431) (tgt := 470) hx hb dL_law_39 (by decide) (by decide) rfl (by decide) ?_
    cases h1 : isNb (xs (i + 1)) N
    · exact lw_neighbour_bad C hK hTL hfl hi hg hcs hec hP hD hS hl hnc hns h1 rfl rfl (K1 _ _)
    · obtain ⟨u, hu, e1⟩ := isNb_of hN h1
      by_cases hq : xs (i + 2) < 0 ∨ nI (zpop (f u)) ≤ xs (i + 2)
      · exact lw_neighbour_badi C hK hTL hfl hi hg hcs hec hP hD hS hl hnc hns hu hq e1 rfl (K1 _ _)
      · obtain ⟨q, hq2, e2⟩ := nI_mid (pop_31 _) hq
        exact lw_neighbour_ok C hK hTL hfl hi hg hcs hec hP hD hS hl hnc hns hu hq2 e1 e2 (K1 _ _)
  · refine lv_tableIn (off := 499) (tgt := 538) hx hb dL_law_39 (by decide) (by decide) rfl (by decide) ?_
    cases h1 : isNb (xs (i + 1)) N
    · exact lw_areJoined_bad1 C hK hTL hfl hi hg hcs hec hP hD hS hl hnc hns h1 rfl rfl (K1 _ _)
    · obtain ⟨u, hu, e1⟩ := isNb_of hN h1
      cases h2 : isNb (xs (i + 2)) N
      · exact lw_areJoined_bad2 C hK hTL hfl hi hg hcs hec hP hD hS hl hnc hns hu h2 e1 rfl (K1 _ _)
      · obtain ⟨v, hv, e2⟩ := isNb_of hN h2
        exact lw_areJoined_ok C hK hTL hfl hi hg hcs hec hP hD hS hl hnc hns hu hv e1 e2 (K1 _ _)
  · refine lv_tableIn (off := 574) (tgt := 613) hx hb dL_law_39 (by decide) (by decide) rfl (by decide) ?_
    cases h1 : isNb (xs (i + 1)) N
    · exact lw_core_bad C hK hTL hfl hi hg hcs hec hP hD hS hl hnc hns h1 rfl (K1 _ _)
    · obtain ⟨u, hu, e1⟩ := isNb_of hN h1
      exact lw_core_ok C hK hTL hfl hi hg hcs hec hP hD hS hl hnc hns hu e1 (K1 _ _)
  · refine lv_tableIn (off := 630) (tgt := 669) hx hb dL_law_39 (by decide) (by decide) rfl (by decide) ?_
    exact lw_degeneracy C hK hTL hfl hi hg hcs hec hP hD hS hl hnc hns  (K1 _ _)
  · refine lv_tableIn (off := 643) (tgt := 682) hx hb dL_law_39 (by decide) (by decide) rfl (by decide) ?_
    by_cases hk : xs (i + 1) < 0
    · exact lw_coreSize_neg C hK hTL hfl hi hg hcs hec hP hD hS hl hnc hns hk rfl (K1 _ _)
    · exact lw_coreSize_ok C hK hTL hfl hi hg hcs hec hP hD hS hl hnc hns hk rfl (K1 _ _)
  · refine lv_tableIn (off := 699) (tgt := 738) hx hb dL_law_39 (by decide) (by decide) rfl (by decide) ?_
    exact lw_changes C hK hTL hfl hi hg hcs hec hP hD hS hl hnc hns  (K1 _ _)
  · refine lv_tableIn (off := 712) (tgt := 751) hx hb dL_law_39 (by decide) (by decide) rfl (by decide) ?_
    cases h1 : isNb (xs (i + 1)) N
    · exact lw_community_bad C hK hTL hfl hi hg hcs hec hP hD hS hl hnc hns h1 rfl rfl (K1 _ _)
    · obtain ⟨u, hu, e1⟩ := isNb_of hN h1
      by_cases hk : xs (i + 2) < 0
      · exact lw_community_neg C hK hTL hfl hi hg hcs hec hP hD hS hl hnc hns hu hk e1 rfl (K1 _ _)
      · exact lw_community_ok C hK hTL hfl hi hg hcs hec hP hD hS hl hnc hns hu hk e1 rfl (K1 _ _)
  · refine lv_tableIn (off := 780) (tgt := 819) hx hb dL_law_39 (by decide) (by decide) rfl (by decide) ?_
    by_cases hk : xs (i + 1) < 0
    · exact lw_communities_neg C hK hTL hfl hi hg hcs hec hP hD hS hl hnc hns hk rfl (K1 _ _)
    · exact lw_communities_ok C hK hTL hfl hi hg hcs hec hP hD hS hl hnc hns hk rfl (K1 _ _)
  · refine lv_tableIn (off := 836) (tgt := 875) hx hb dL_law_39 (by decide) (by decide) rfl (by decide) ?_
    cases h1 : isNb (xs (i + 1)) N
    · exact lw_together_bad1 C hK hTL hfl hi hg hcs hec hP hD hS hl hnc hns h1 rfl rfl (K1 _ _)
    · obtain ⟨u, hu, e1⟩ := isNb_of hN h1
      cases h2 : isNb (xs (i + 2)) N
      · exact lw_together_bad2 C hK hTL hfl hi hg hcs hec hP hD hS hl hnc hns hu h2 e1 rfl (K1 _ _)
      · obtain ⟨v, hv, e2⟩ := isNb_of hN h2
        rcases ht : tgk f (cnum f N) N u v 20 with _ | t0
        · exact lw_together_none C hK hTL hfl hi hg hcs hec hP hD hS hl hnc hns hu hv ht e1 e2 (K1 _ _)
        · exact lw_together_ok C hK hTL hfl hi hg hcs hec hP hD hS hl hnc hns hu hv ht e1 e2 (K1 _ _)
  · refine lv_tableIn (off := 904) (tgt := 943) hx hb dL_law_39 (by decide) (by decide) rfl (by decide) ?_
    exact lw_hierarchy C hK hTL hfl hi hg hcs hec hP hD hS hl hnc hns  (K1 _ _)
  · refine lv_tableIn (off := 917) (tgt := 956) hx hb dL_law_39 (by decide) (by decide) rfl (by decide) ?_
    cases h1 : isNb (xs (i + 1)) N
    · exact lw_peeled_bad C hK hTL hfl hi hg hcs hec hP hD hS hl hnc hns h1 rfl (K1 _ _)
    · obtain ⟨u, hu, e1⟩ := isNb_of hN h1
      exact lw_peeled_ok C hK hTL hfl hi hg hcs hec hP hD hS hl hnc hns hu e1 (K1 _ _)
  · refine lv_tableIn (off := 973) (tgt := 1012) hx hb dL_law_39 (by decide) (by decide) rfl (by decide) ?_
    exact lw_denseSize C hK hTL hfl hi hg hcs hec hP hD hS hl hnc hns  (K1 _ _)
  · refine lv_tableIn (off := 986) (tgt := 1025) hx hb dL_law_39 (by decide) (by decide) rfl (by decide) ?_
    cases h1 : isNb (xs (i + 1)) N
    · exact lw_isDense_bad C hK hTL hfl hi hg hcs hec hP hD hS hl hnc hns h1 rfl (K1 _ _)
    · obtain ⟨u, hu, e1⟩ := isNb_of hN h1
      exact lw_isDense_ok C hK hTL hfl hi hg hcs hec hP hD hS hl hnc hns hu e1 (K1 _ _)
  · refine lv_tableIn (off := 1049) (tgt := 1088) hx hb dL_law_39 (by decide) (by decide) rfl (by decide) ?_
    exact lw_density C hK hTL hfl hi hg hcs hec hP hD hS hl hnc hns  (K1 _ _)
  · refine lv_tableIn (off := 1090) (tgt := 1129) hx hb dL_law_39 (by decide) (by decide) rfl (by decide) ?_
    cases h1 : isNb (xs (i + 1)) N
    · exact lw_support_bad1 C hK hTL hfl hi hg hcs hec hP hD hS hl hnc hns h1 rfl rfl (K1 _ _)
    · obtain ⟨u, hu, e1⟩ := isNb_of hN h1
      cases h2 : isNb (xs (i + 2)) N
      · exact lw_support_bad2 C hK hTL hfl hi hg hcs hec hP hD hS hl hnc hns hu h2 e1 rfl (K1 _ _)
      · obtain ⟨v, hv, e2⟩ := isNb_of hN h2
        cases he : bt (f u) v
        · exact lw_support_none C hK hTL hfl hi hg hcs hec hP hD hS hl hnc hns hu hv he e1 e2 (K1 _ _)
        · exact lw_support_ok C hK hTL hfl hi hg hcs hec hP hD hS hl hnc hns hu hv he e1 e2 (K1 _ _)
  · refine lv_tableIn (off := 1158) (tgt := 1197) hx hb dL_law_39 (by decide) (by decide) rfl (by decide) ?_
    exact lw_triangles C hK hTL hfl hi hg hcs hec hP hD hS hl hnc hns  (K1 _ _)
  · refine lv_tableIn (off := 1171) (tgt := 1210) hx hb dL_law_39 (by decide) (by decide) rfl (by decide) ?_
    cases h1 : isNb (xs (i + 1)) N
    · exact lw_truss_bad1 C hK hTL hfl hi hg hcs hec hP hD hS hl hnc hns h1 rfl rfl (K1 _ _)
    · obtain ⟨u, hu, e1⟩ := isNb_of hN h1
      cases h2 : isNb (xs (i + 2)) N
      · exact lw_truss_bad2 C hK hTL hfl hi hg hcs hec hP hD hS hl hnc hns hu h2 e1 rfl (K1 _ _)
      · obtain ⟨v, hv, e2⟩ := isNb_of hN h2
        cases he : bt (f u) v
        · exact lw_truss_none C hK hTL hfl hi hg hcs hec hP hD hS hl hnc hns hu hv he e1 e2 (K1 _ _)
        · exact lw_truss_ok C hK hTL hfl hi hg hcs hec hP hD hS hl hnc hns hu hv he e1 e2 (K1 _ _)
  · refine lv_tableIn (off := 1239) (tgt := 1278) hx hb dL_law_39 (by decide) (by decide) rfl (by decide) ?_
    by_cases hk : xs (i + 1) < nI 2
    · exact lw_trussSize_neg C hK hTL hfl hi hg hcs hec hP hD hS hl hnc hns hk rfl (K1 _ _)
    · exact lw_trussSize_ok C hK hTL hfl hi hg hcs hec hP hD hS hl hnc hns hk rfl (K1 _ _)
  · refine lv_tableOut (tgt := 1334) hx hb dL_law_39 (Or.inr (by rw [nI_toInt (by omega)]; omega)) (by decide) ?_
    refine W.widen (k := cells + 1) (n := slots + 6) (by omega) (by omega) ?_
    exact K1 _ _ _ _ _ ⟨hg, _, _, _, _, _, _, _, _, _, _, _, _, hcs, hec, hP, hD⟩ hS hl
end ZLI
