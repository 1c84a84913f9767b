set_option maxHeartbeats 4000000 in
set_option maxRecDepth 100000 in
theorem lw_env {s : State} {b : Nat} (hts : ∀ w ∈ lw_tbl, w.before #[Value.ref b] s = true) (hg : (Jvm.Cond.and given_1 narrow_1).before #[Value.ref b] s = true) : ∃ ev : Nat → Nat, xV ev (LA s) s := by
  have hs := flat_of_before _ hg
  have hA : ∀ a : Nat, a < s.heap.size → ¬ LA s a := fun a h q => absurd h (Nat.not_lt.mpr q)
  obtain ⟨t0, a0, b0⟩ := lw_tTAKES hts hg
  obtain ⟨t1, a1, b1⟩ := lw_tHAS_ROOM hts hg
  obtain ⟨t2, a2, b2⟩ := lw_tSUCH hts hg
  obtain ⟨t3, a3, b3⟩ := lw_tFIRST_FIGURE hts hg
  obtain ⟨k, v, hS, hR⟩ := lw_texts hts hg
  refine ⟨evF t0 t1 t2 t3 k v, ?_, ?_, ?_, ?_, ?_, ?_, ?_, ?_, ?_, ?_, ?_, ?_, ?_, ?_, ?_, ?_, ?_, ?_, ?_, ?_, ?_, ?_, ?_, ?_, ?_, ?_, ?_, ?_, ?_, ?_, ?_, ?_, ?_, ?_, ?_, ?_, ?_⟩
  · exact va_Nw.of (A := #[Value.ref b]) rfl (hts _ (by decide +kernel))
  · exact va_Nw.of (A := #[Value.ref b]) rfl (hts _ (by decide +kernel))
  · exact va_Nw.of (A := #[Value.ref b]) rfl (hts _ (by decide +kernel))
  · exact va_Nw.of (A := #[Value.ref b]) rfl (hts _ (by decide +kernel))
  · exact va_Nw.of (A := #[Value.ref b]) rfl (hts _ (by decide +kernel))
  · exact va_Nw.of (A := #[Value.ref b]) rfl (hts _ (by decide +kernel))
  · exact va_Nw.of (A := #[Value.ref b]) rfl (hts _ (by decide +kernel))
  · exact va_Nw.of (A := #[Value.ref b]) rfl (hts _ (by decide +kernel))
  · exact va_Nw.of (A := #[Value.ref b]) rfl (hts _ (by decide +kernel))
  · exact va_Nw.of (A := #[Value.ref b]) rfl (hts _ (by decide +kernel))
  · exact va_Nw.of (A := #[Value.ref b]) rfl (hts _ (by decide +kernel))
  · exact va_Nw.of (A := #[Value.ref b]) rfl (hts _ (by decide +kernel))
  · exact va_Nw.of (A := #[Value.ref b]) rfl (hts _ (by decide +kernel))
  · exact va_Nw.of (A := #[Value.ref b]) rfl (hts _ (by decide +kernel))
  · exact a0
  · exact b0
  · exact a1
  · exact b1
  · exact a2
  · exact b2
  · exact a3
  · exact b3
  · exact va_Zof (args := #[Value.ref b]) (hts _ (by decide +kernel)) (hts _ (by decide +kernel)) (va_eqt (hs _ (by decide +kernel))) hA
  · exact va_Zqof (args := #[Value.ref b]) (hts _ (by decide +kernel)) (hts _ (by decide +kernel)) (hs _ (by decide +kernel)) hA
  · exact va_AO.of (A := #[Value.ref b]) (hts _ (by decide +kernel))
  · exact va_AO.of (A := #[Value.ref b]) (hts _ (by decide +kernel))
  · exact va_AOA.of (A := #[Value.ref b]) (hts _ (by decide +kernel))
  · exact vk_S_congr (fun i hi => evF_k hi) (fun i hi => evF_v hi) hS
  · exact vk_R.of (A := #[Value.ref b]) (hts _ (by decide +kernel)) ((hR 0 (by decide)).trans (by rw [evF_k (by decide)]))
  · exact vk_R.of (A := #[Value.ref b]) (hts _ (by decide +kernel)) ((hR 1 (by decide)).trans (by rw [evF_k (by decide)]))
  · exact vk_R.of (A := #[Value.ref b]) (hts _ (by decide +kernel)) ((hR 2 (by decide)).trans (by rw [evF_k (by decide)]))
  · exact vk_R.of (A := #[Value.ref b]) (hts _ (by decide +kernel)) ((hR 3 (by decide)).trans (by rw [evF_k (by decide)]))
  · exact vk_R.of (A := #[Value.ref b]) (hts _ (by decide +kernel)) ((hR 4 (by decide)).trans (by rw [evF_k (by decide)]))
  · exact vk_R.of (A := #[Value.ref b]) (hts _ (by decide +kernel)) ((hR 5 (by decide)).trans (by rw [evF_k (by decide)]))
  · exact vk_R.of (A := #[Value.ref b]) (hts _ (by decide +kernel)) ((hR 6 (by decide)).trans (by rw [evF_k (by decide)]))
  · exact vk_R.of (A := #[Value.ref b]) (hts _ (by decide +kernel)) ((hR 7 (by decide)).trans (by rw [evF_k (by decide)]))
  · exact vk_R.of (A := #[Value.ref b]) (hts _ (by decide +kernel)) ((hR 8 (by decide)).trans (by rw [evF_k (by decide)]))
