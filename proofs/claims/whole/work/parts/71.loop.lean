section ZLP
theorem len_5 {L n : Nat} (hL : L ≤ 2560) (h : ¬ nI L - 5 < nI n) (hn : n ≤ 2570) : n + 5 ≤ L := by
  by_cases h5 : L < 5
  · exact absurd (Int32.lt_of_lt_of_le (show nI L - 5 < 0 by
      rcases (show L = 0 ∨ L = 1 ∨ L = 2 ∨ L = 3 ∨ L = 4 by omega) with rfl | rfl | rfl | rfl | rfl <;> decide) (ge_i (by omega))) h
  · obtain ⟨q, rfl⟩ : ∃ q, L = q + 5 := ⟨L - 5, by omega⟩
    have e : nI (q + 5) - 5 = nI q := by rw [← nI_add q 5]; exact Int32.add_sub_cancel _ _
    rw [e] at h
    by_cases hq : n ≤ q
    · omega
    · exact absurd (lt_i (a := q) (b := n) (by omega) (by omega)) h
set_option maxRecDepth 100000 in
theorem law_loop {p : Program} {l : Launch} {e : Env} {R : Room} {s : State} {m : MethodId} {args : Array Value} {below : List Frame} {meth : Method} {c : Code} {Q : State → Prop} {g : zG} {ret : Option FieldType} {mc b L : Nat} {xs : Nat → Int32} (hX : zX p l s m args meth c R g RL cL_law 9 ret 21 mc) (hl0 : l.stackTraces = false) (hx : scX s g b L xs) (hend : ∀ (κ : zKp) (μ : zMu) (ω : zOm) (k n : Nat), k ≤ mc → zZ p l e R s m args below meth c g 9 Q κ μ ω k 2475 (lvL g b n) []) : ∀ (f n k : Nat) (κ : zKp) (μ : zMu) (ω : zOm), L ≤ n + 5 * f → n ≤ L + 5 → k + f ≤ mc → RR κ μ → zZ p l e R s m args below meth c g 9 Q κ μ ω k 28 (lvL g b n) [] := by
  have hL := hx.2.2.2
  intro f
  induction f with
  | zero =>
    intro n k κ μ ω h1 h2 h3 h
    refine z_iload hX dL_law_28 5 rfl ?_
    refine z_aload_n hX dL_law_30 0 rfl ?_
    refine z_slen hX hx dL_law_31 ?_
    refine z_iconst (v := 5) hX dL_law_32 (by decide) ?_
    refine z_isub hX dL_law_33 ?_
    exact z_icmp_gt (tgt := 2475) hX dL_law_34 (by decide) (fun _ => hend κ μ ω k n h3) (fun q => absurd (len_5 hL q (by omega)) (by omega))
  | succ f ih =>
    intro n k κ μ ω h1 h2 h3 h
    refine z_iload hX dL_law_28 5 rfl ?_
    refine z_aload_n hX dL_law_30 0 rfl ?_
    refine z_slen hX hx dL_law_31 ?_
    refine z_iconst (v := 5) hX dL_law_32 (by decide) ?_
    refine z_isub hX dL_law_33 ?_
    refine z_icmp_gt (tgt := 2475) hX dL_law_34 (by decide) (fun _ => hend κ μ ω k n (by omega)) (fun q => ?_)
    have hn := len_5 hL q (by omega)
    have hnext : ∀ (κ' : zKp) (μ' : zMu) (ω' : zOm), RR κ' μ' → zZ p l e R s m args below meth c g 9 Q κ' μ' ω' (k + 1) 2469 (lvL g b n) [] := fun κ' μ' ω' hR => by
      refine z_iinc (v := nI (n + 5)) (lv' := _) hX dL_law_2469 5 rfl (nI_add n 5) (by decide) rfl ?_
      refine z_goto (tgt := 28) hX dL_law_2472 (by decide) ?_
      refine z_sub [1, 2, 3, 4, 5, 0] rfl ?_
      exact ih (n + 5) (k + 1) κ' μ' ω' (by omega) (by omega) (by omega) hR
    refine z_aload_n hX dL_law_37 0 rfl ?_
    refine z_iload hX dL_law_38 5 rfl ?_
    refine z_sld hX hx (q := n) (by omega) dL_law_40 ?_
    refine z_bipush (v := 63) hX dL_law_41 (by decide) ?_
    refine z_iand hX dL_law_43 ?_
    refine z_topi (fun v hv => ?_)
    by_cases ho : v.toInt < 0 ∨ 43 < v.toInt
    · exact z_tabOut (tgt := 2469) hX dL_law_44 ho (by decide) (z_widen (by omega) (hnext κ μ ω h))
    · obtain ⟨j, ej⟩ := Int.eq_ofNat_of_zero_le (a := v.toInt) (by omega)
      have hj : j < 44 := by omega
      rcases (show j = 0 ∨ j = 1 ∨ j = 2 ∨ j = 3 ∨ j = 4 ∨ j = 5 ∨ j = 6 ∨ j = 7 ∨ j = 8 ∨ j = 9 ∨ j = 10 ∨ j = 11 ∨ j = 12 ∨ j = 13 ∨ j = 14 ∨ j = 15 ∨ j = 16 ∨ j = 17 ∨ j = 18 ∨ j = 19 ∨ j = 20 ∨ j = 21 ∨ j = 22 ∨ j = 23 ∨ j = 24 ∨ j = 25 ∨ j = 26 ∨ j = 27 ∨ j = 28 ∨ j = 29 ∨ j = 30 ∨ j = 31 ∨ j = 32 ∨ j = 33 ∨ j = 34 ∨ j = 35 ∨ j = 36 ∨ j = 37 ∨ j = 38 ∨ j = 39 ∨ j = 40 ∨ j = 41 ∨ j = 42 ∨ j = 43 by omega) with rfl | rfl | rfl | rfl | rfl | rfl | rfl | rfl | rfl | rfl | rfl | rfl | rfl | rfl | rfl | rfl | rfl | rfl | rfl | rfl | rfl | rfl | rfl | rfl | rfl | rfl | rfl | rfl | rfl | rfl | rfl | rfl | rfl | rfl | rfl | rfl | rfl | rfl | rfl | rfl | rfl | rfl | rfl | rfl
      · exact z_tabIn (off := 192) (tgt := 236) hX dL_law_44 (by rw [ej]; decide) (by rw [ej]; decide) (by rw [ej]; rfl) (by decide) (bk_0 hX hl0 hx h hn (by omega) hnext)
      · exact z_tabIn (off := 286) (tgt := 330) hX dL_law_44 (by rw [ej]; decide) (by rw [ej]; decide) (by rw [ej]; rfl) (by decide) (bk_1 hX hl0 hx h hn (by omega) hnext)
      · exact z_tabIn (off := 356) (tgt := 400) hX dL_law_44 (by rw [ej]; decide) (by rw [ej]; decide) (by rw [ej]; rfl) (by decide) (bk_2 hX hl0 hx h hn (by omega) hnext)
      · exact z_tabIn (off := 412) (tgt := 456) hX dL_law_44 (by rw [ej]; decide) (by rw [ej]; decide) (by rw [ej]; rfl) (by decide) (bk_3 hX hl0 hx h hn (by omega) hnext)
      · exact z_tabIn (off := 425) (tgt := 469) hX dL_law_44 (by rw [ej]; decide) (by rw [ej]; decide) (by rw [ej]; rfl) (by decide) (bk_4 hX hl0 hx h hn (by omega) hnext)
      · exact z_tabIn (off := 438) (tgt := 482) hX dL_law_44 (by rw [ej]; decide) (by rw [ej]; decide) (by rw [ej]; rfl) (by decide) (bk_5 hX hl0 hx h hn (by omega) hnext)
      · exact z_tabIn (off := 494) (tgt := 538) hX dL_law_44 (by rw [ej]; decide) (by rw [ej]; decide) (by rw [ej]; rfl) (by decide) (bk_6 hX hl0 hx h hn (by omega) hnext)
      · exact z_tabIn (off := 550) (tgt := 594) hX dL_law_44 (by rw [ej]; decide) (by rw [ej]; decide) (by rw [ej]; rfl) (by decide) (bk_7 hX hl0 hx h hn (by omega) hnext)
      · exact z_tabIn (off := 606) (tgt := 650) hX dL_law_44 (by rw [ej]; decide) (by rw [ej]; decide) (by rw [ej]; rfl) (by decide) (bk_8 hX hl0 hx h hn (by omega) hnext)
      · exact z_tabIn (off := 662) (tgt := 706) hX dL_law_44 (by rw [ej]; decide) (by rw [ej]; decide) (by rw [ej]; rfl) (by decide) (bk_9 hX hl0 hx h hn (by omega) hnext)
      · exact z_tabIn (off := 718) (tgt := 762) hX dL_law_44 (by rw [ej]; decide) (by rw [ej]; decide) (by rw [ej]; rfl) (by decide) (bk_10 hX hl0 hx h hn (by omega) hnext)
      · exact z_tabIn (off := 774) (tgt := 818) hX dL_law_44 (by rw [ej]; decide) (by rw [ej]; decide) (by rw [ej]; rfl) (by decide) (bk_11 hX hl0 hx h hn (by omega) hnext)
      · exact z_tabIn (off := 830) (tgt := 874) hX dL_law_44 (by rw [ej]; decide) (by rw [ej]; decide) (by rw [ej]; rfl) (by decide) (bk_12 hX hl0 hx h hn (by omega) hnext)
      · exact z_tabIn (off := 893) (tgt := 937) hX dL_law_44 (by rw [ej]; decide) (by rw [ej]; decide) (by rw [ej]; rfl) (by decide) (bk_13 hX hl0 hx h hn (by omega) hnext)
      · exact z_tabIn (off := 956) (tgt := 1000) hX dL_law_44 (by rw [ej]; decide) (by rw [ej]; decide) (by rw [ej]; rfl) (by decide) (bk_14 hX hl0 hx h hn (by omega) hnext)
      · exact z_tabIn (off := 1012) (tgt := 1056) hX dL_law_44 (by rw [ej]; decide) (by rw [ej]; decide) (by rw [ej]; rfl) (by decide) (bk_15 hX hl0 hx h hn (by omega) hnext)
      · exact z_tabIn (off := 1080) (tgt := 1124) hX dL_law_44 (by rw [ej]; decide) (by rw [ej]; decide) (by rw [ej]; rfl) (by decide) (bk_16 hX hl0 hx h hn (by omega) hnext)
      · exact z_tabIn (off := 1136) (tgt := 1180) hX dL_law_44 (by rw [ej]; decide) (by rw [ej]; decide) (by rw [ej]; rfl) (by decide) (bk_17 hX hl0 hx h hn (by omega) hnext)
      · exact z_tabIn (off := 1192) (tgt := 1236) hX dL_law_44 (by rw [ej]; decide) (by rw [ej]; decide) (by rw [ej]; rfl) (by decide) (bk_18 hX hl0 hx h hn (by omega) hnext)
      · exact z_tabIn (off := 1248) (tgt := 1292) hX dL_law_44 (by rw [ej]; decide) (by rw [ej]; decide) (by rw [ej]; rfl) (by decide) (bk_19 hX hl0 hx h hn (by omega) hnext)
      · exact z_tabIn (off := 1304) (tgt := 1348) hX dL_law_44 (by rw [ej]; decide) (by rw [ej]; decide) (by rw [ej]; rfl) (by decide) (bk_20 hX hl0 hx h hn (by omega) hnext)
      · exact z_tabIn (off := 1360) (tgt := 1404) hX dL_law_44 (by rw [ej]; decide) (by rw [ej]; decide) (by rw [ej]; rfl) (by decide) (bk_21 hX hl0 hx h hn (by omega) hnext)
      · exact z_tabIn (off := 1416) (tgt := 1460) hX dL_law_44 (by rw [ej]; decide) (by rw [ej]; decide) (by rw [ej]; rfl) (by decide) (bk_22 hX hl0 hx h hn (by omega) hnext)
      · exact z_tabIn (off := 1429) (tgt := 1473) hX dL_law_44 (by rw [ej]; decide) (by rw [ej]; decide) (by rw [ej]; rfl) (by decide) (bk_23 hX hl0 hx h hn (by omega) hnext)
      · exact z_tabIn (off := 1473) (tgt := 1517) hX dL_law_44 (by rw [ej]; decide) (by rw [ej]; decide) (by rw [ej]; rfl) (by decide) (bk_24 hX hl0 hx h hn (by omega) hnext)
      · exact z_tabIn (off := 1529) (tgt := 1573) hX dL_law_44 (by rw [ej]; decide) (by rw [ej]; decide) (by rw [ej]; rfl) (by decide) (bk_25 hX hl0 hx h hn (by omega) hnext)
      · exact z_tabIn (off := 1585) (tgt := 1629) hX dL_law_44 (by rw [ej]; decide) (by rw [ej]; decide) (by rw [ej]; rfl) (by decide) (bk_26 hX hl0 hx h hn (by omega) hnext)
      · exact z_tabIn (off := 1641) (tgt := 1685) hX dL_law_44 (by rw [ej]; decide) (by rw [ej]; decide) (by rw [ej]; rfl) (by decide) (bk_27 hX hl0 hx h hn (by omega) hnext)
      · exact z_tabIn (off := 1697) (tgt := 1741) hX dL_law_44 (by rw [ej]; decide) (by rw [ej]; decide) (by rw [ej]; rfl) (by decide) (bk_28 hX hl0 hx h hn (by omega) hnext)
      · exact z_tabIn (off := 1765) (tgt := 1809) hX dL_law_44 (by rw [ej]; decide) (by rw [ej]; decide) (by rw [ej]; rfl) (by decide) (bk_29 hX hl0 hx h hn (by omega) hnext)
      · exact z_tabIn (off := 1809) (tgt := 1853) hX dL_law_44 (by rw [ej]; decide) (by rw [ej]; decide) (by rw [ej]; rfl) (by decide) (bk_30 hX hl0 hx h hn (by omega) hnext)
      · exact z_tabIn (off := 1865) (tgt := 1909) hX dL_law_44 (by rw [ej]; decide) (by rw [ej]; decide) (by rw [ej]; rfl) (by decide) (bk_31 hX hl0 hx h hn (by omega) hnext)
      · exact z_tabIn (off := 1878) (tgt := 1922) hX dL_law_44 (by rw [ej]; decide) (by rw [ej]; decide) (by rw [ej]; rfl) (by decide) (bk_32 hX hl0 hx h hn (by omega) hnext)
      · exact z_tabIn (off := 1934) (tgt := 1978) hX dL_law_44 (by rw [ej]; decide) (by rw [ej]; decide) (by rw [ej]; rfl) (by decide) (bk_33 hX hl0 hx h hn (by omega) hnext)
      · exact z_tabIn (off := 1990) (tgt := 2034) hX dL_law_44 (by rw [ej]; decide) (by rw [ej]; decide) (by rw [ej]; rfl) (by decide) (bk_34 hX hl0 hx h hn (by omega) hnext)
      · exact z_tabIn (off := 2055) (tgt := 2099) hX dL_law_44 (by rw [ej]; decide) (by rw [ej]; decide) (by rw [ej]; rfl) (by decide) (bk_35 hX hl0 hx h hn (by omega) hnext)
      · exact z_tabIn (off := 2121) (tgt := 2165) hX dL_law_44 (by rw [ej]; decide) (by rw [ej]; decide) (by rw [ej]; rfl) (by decide) (bk_36 hX hl0 hx h hn (by omega) hnext)
      · exact z_tabIn (off := 2134) (tgt := 2178) hX dL_law_44 (by rw [ej]; decide) (by rw [ej]; decide) (by rw [ej]; rfl) (by decide) (bk_37 hX hl0 hx h hn (by omega) hnext)
      · exact z_tabIn (off := 2192) (tgt := 2236) hX dL_law_44 (by rw [ej]; decide) (by rw [ej]; decide) (by rw [ej]; rfl) (by decide) (bk_38 hX hl0 hx h hn (by omega) hnext)
      · exact z_tabIn (off := 2236) (tgt := 2280) hX dL_law_44 (by rw [ej]; decide) (by rw [ej]; decide) (by rw [ej]; rfl) (by decide) (bk_39 hX hl0 hx h hn (by omega) hnext)
      · exact z_tabIn (off := 2280) (tgt := 2324) hX dL_law_44 (by rw [ej]; decide) (by rw [ej]; decide) (by rw [ej]; rfl) (by decide) (bk_40 hX hl0 hx h hn (by omega) hnext)
      · exact z_tabIn (off := 2324) (tgt := 2368) hX dL_law_44 (by rw [ej]; decide) (by rw [ej]; decide) (by rw [ej]; rfl) (by decide) (bk_41 hX hl0 hx h hn (by omega) hnext)
      · exact z_tabIn (off := 2368) (tgt := 2412) hX dL_law_44 (by rw [ej]; decide) (by rw [ej]; decide) (by rw [ej]; rfl) (by decide) (bk_42 hX hl0 hx h hn (by omega) hnext)
      · exact z_tabIn (off := 2381) (tgt := 2425) hX dL_law_44 (by rw [ej]; decide) (by rw [ej]; decide) (by rw [ej]; rfl) (by decide) (bk_43 hX hl0 hx h hn (by omega) hnext)
end ZLP
