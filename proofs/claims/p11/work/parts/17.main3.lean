/-! the simulation itself, by the number of steps -/
theorem mz_main {l : Launch} {s0 : State} {D : va_G} {cA : Nat → ClassId} {xt : List Nat} {X : List (List Value)} {args0 : Array Value} (hT0 : ∀ w ∈ lw_tbl, w.before args0 s0 = true) (hC0 : mz_CT D (fun q => s0.heap.size ≤ q) cA xt X s0) (hTHR : mz_THR l s0) : ∀ n, mz_GO l s0 D cA xt X n := by
  intro n
  induction n with
  | zero => intro d j i lo st σ out σ' M t h; simp [mz_run] at h
  | succ n IH =>
    intro d j i lo st σ out σ' M t h hM ht p e R s m args below meth c H locs cells slots Q ws ls rlo rst c0 n0 adsE hFX hRf hRl hRc hRs hl hlo hst hP hext hcn hsn hend
    obtain ⟨M2, ri, hM2, hri, hcs⟩ := mz_run_cases h
    cases hM.symm.trans hM2
    obtain ⟨t', ht', hok⟩ := mz_F2.get mz_okall hM
    cases ht.symm.trans ht'
    have hoki := hok.1 i
    obtain ⟨hx, hb, hml, hown, hts, hnm, hlk, hret, htab, hW0, hz0, hk0⟩ := id hFX
    have hCT : mz_CT D (fun q => s0.heap.size ≤ q) cA xt X s := mz_CT_moved hC0 hW0 hz0 hk0
    have hmono := mz_mono h
    dsimp only at hmono
    rcases hcs with ⟨h40, d', as, rest, M', o, s', q, rfl, htk, hM', hs8, hsa, hrecv, hrun, hres, hgo⟩ | hfin | ⟨hop, q, hq, hgo⟩ | ⟨h40, h41, h42, h43, q, hq, hgo⟩
    · exact mz_callcase hT0 hC0 hTHR IH hM ht hoki hFX hRf hRl hRc hRs hl hlo hst hP hext hcn hsn hend hri h40 htk hM' hs8 hsa hrecv hrun hres hgo
    · exact hend i ri ls st rst σ H locs ws cells slots hri hfin hl.1 hst hP hext hcn hsn
    · unfold mz_okAt at hoki
      rw [hri] at hoki
      dsimp only at hoki
      split at hoki
      · rename_i ins len hdec
        rw [if_neg (by omega), if_neg (by omega), if_neg (by omega), if_neg (by omega), if_neg (by omega)] at hoki
        exact mz_sim1 hx hb hown hts hdec hoki hop hl hlo hst hq (fun ls' rlo' rst' g1 g2 g3 => IH d j q.1 q.2.1 q.2.2 σ out σ' M t hgo hM ht p e R s m args below meth c H locs cells slots Q ws ls' rlo' rst' c0 n0 adsE hFX hRf hRl hRc hRs g1 g2 g3 hP hext hcn hsn hend)
      · cases hoki
    · have hm2 := mz_mono hgo
      dsimp only at hm2
      unfold mz_okAt at hoki
      rw [hri] at hoki
      dsimp only at hoki
      split at hoki
      · rename_i ins len hdec
        have h44 : ri.1 ≠ 44 := by
          intro h44
          unfold mz_heap at hq
          rw [h44] at hq
          cases hq
        rw [if_neg h40, if_neg h41, if_neg h42, if_neg h43, if_neg h44] at hoki
        refine mz_sim2 hx hb hown hts hnm (hl.1.trans hml.symm) (by omega) (by omega) hdec hoki hCT hP hst hcn hsn hq (by omega) (by omega) (fun H' locs' ws' rst' cells' slots' g1 g2 g3 g4 g5 => ?_)
        obtain ⟨z, hz⟩ := g2
        obtain ⟨z0, hz0⟩ := hext
        exact IH d j (i + 1) lo q.1 q.2 out σ' M t hgo hM ht p e R s m args below meth c H' locs' cells' slots' Q ws' ls rlo rst' c0 n0 adsE hFX hRf hRl hRc hRs hl (by rw [hz]; exact mz_LR.app hlo z) g3 g1 ⟨z0 ++ z, by rw [hz, hz0, List.append_assoc]⟩ g4 g5 hend
      · cases hoki
