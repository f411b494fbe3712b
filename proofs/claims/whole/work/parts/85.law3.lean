theorem law_loop {n : Nat} {sc : Nat → Int} (hn : n ≤ 2048) (hs : ∀ j, i32 (sc j)) : ∀ (f k : Nat), k + f = 513 → k ≤ 512 → ∀ (a : AS) (σ : Wd) (o5 o6 : Option Value) (cells slots : Nat), LI n sc σ a → CB k σ cells slots → TL 23 (LL k o5 o6) [] σ cells slots
  | 0, k, h1, h2 => by omega
  | f + 1, k, h1, h2 => fun a σ o5 o6 cells slots hI hC => by
    have hb9 := hC.lim h2
    have h140 := hI.2.2.2.2
    refine z_iload dL_law_23 rfl ?_
    refine z_aload_n dL_law_25 rfl ?_
    refine i_xlen dL_law_26 (by first | exact h140 | rfl) ?_
    refine i_iconst dL_law_27 rfl ?_
    refine i_isub dL_law_28 ?_
    refine i_icmp_gt (tgt := 1232) dL_law_29 (by decide) (by omega) (by omega) (fun h => ?_) (fun h => ?_)
    · refine i_iconst dL_law_1232 rfl ?_
      exact z_zret dL_law_1233 rfl (by show cells ≤ 601024; omega) (by show slots ≤ 7293033; omega) rfl rfl
    · have hk : 4 * k + 4 ≤ n := by omega
      have K : KN n sc k := fun a u x5 x6 c s hI hC => by
        refine i_iinc dL_law_1226 rfl (by decide) ?_
        refine z_goto (tgt := 23) dL_law_1229 (by decide) ?_
        rw [show ((4 * k : Nat) : Int) + 4 = ((4 * (k + 1) : Nat) : Int) by omega]
        exact law_loop hn hs f (k + 1) (by omega) (by omega) a u x5 x6 c s hI hC
      refine z_aload_n dL_law_32 rfl ?_
      refine z_iload dL_law_33 rfl ?_
      refine i_xald dL_law_35 (by first | exact h140 | rfl) (4 * k + 0) (by omega) (by omega) (by omega) ?_
      refine i_bipush dL_law_36 (by decide) ?_
      refine z_iand dL_law_38 ?_
      obtain ⟨d, hd, he⟩ := and31 (iI (sc (4 * k + 0)))
      rw [he]
      rcases (show d < 20 ∨ 20 ≤ d by omega) with h20 | h20
      · match d, h20 with
        | 0, _ =>
          refine z_tableIn (off := 93) (tgt := 132) dL_law_39 (by decide) (by decide) rfl (by decide) ?_
          exact c_clear hI hn hk hs hC K
        | 1, _ =>
          refine z_tableIn (off := 104) (tgt := 143) dL_law_39 (by decide) (by decide) rfl (by decide) ?_
          exact c_coef hI hn hk hs hC K
        | 2, _ =>
          refine z_tableIn (off := 172) (tgt := 211) dL_law_39 (by decide) (by decide) rfl (by decide) ?_
          exact c_sum hI hn hk hs hC K
        | 3, _ =>
          refine z_tableIn (off := 228) (tgt := 267) dL_law_39 (by decide) (by decide) rfl (by decide) ?_
          exact c_mod hI hn hk hs hC K
        | 4, _ =>
          refine z_tableIn (off := 296) (tgt := 335) dL_law_39 (by decide) (by decide) rfl (by decide) ?_
          exact c_combine hI hn hk hs hC K
        | 5, _ =>
          refine z_tableIn (off := 376) (tgt := 415) dL_law_39 (by decide) (by decide) rfl (by decide) ?_
          exact c_compile hI hn hk hs hC K
        | 6, _ =>
          refine z_tableIn (off := 420) (tgt := 459) dL_law_39 (by decide) (by decide) rfl (by decide) ?_
          exact c_add hI hn hk hs hC K
        | 7, _ =>
          refine z_tableIn (off := 488) (tgt := 527) dL_law_39 (by decide) (by decide) rfl (by decide) ?_
          exact c_size hI hn hk hs hC K
        | 8, _ =>
          refine z_tableIn (off := 501) (tgt := 540) dL_law_39 (by decide) (by decide) rfl (by decide) ?_
          exact c_meet hI hn hk hs hC K
        | 9, _ =>
          refine z_tableIn (off := 576) (tgt := 615) dL_law_39 (by decide) (by decide) rfl (by decide) ?_
          exact c_sweep hI hn hk hs hC K
        | 10, _ =>
          refine z_tableIn (off := 632) (tgt := 671) dL_law_39 (by decide) (by decide) rfl (by decide) ?_
          exact c_output hI hn hk hs hC K
        | 11, _ =>
          refine z_tableIn (off := 695) (tgt := 734) dL_law_39 (by decide) (by decide) rfl (by decide) ?_
          exact c_state hI hn hk hs hC K
        | 12, _ =>
          refine z_tableIn (off := 775) (tgt := 814) dL_law_39 (by decide) (by decide) rfl (by decide) ?_
          exact c_truth hI hn hk hs hC K
        | 13, _ =>
          refine z_tableIn (off := 826) (tgt := 865) dL_law_39 (by decide) (by decide) rfl (by decide) ?_
          exact c_silent hI hn hk hs hC K
        | 14, _ =>
          refine z_tableIn (off := 839) (tgt := 878) dL_law_39 (by decide) (by decide) rfl (by decide) ?_
          exact c_agree hI hn hk hs hC K
        | 15, _ =>
          refine z_tableIn (off := 852) (tgt := 891) dL_law_39 (by decide) (by decide) rfl (by decide) ?_
          exact c_explore hI hn hk hs hC K
        | 16, _ =>
          refine z_tableIn (off := 908) (tgt := 947) dL_law_39 (by decide) (by decide) rfl (by decide) ?_
          exact c_recovers hI hn hk hs hC K
        | 17, _ =>
          refine z_tableIn (off := 959) (tgt := 998) dL_law_39 (by decide) (by decide) rfl (by decide) ?_
          exact c_table hI hn hk hs hC K
        | 18, _ =>
          refine z_tableIn (off := 1027) (tgt := 1066) dL_law_39 (by decide) (by decide) rfl (by decide) ?_
          exact c_rule hI hn hk hs hC K
        | 19, _ =>
          refine z_tableIn (off := 1107) (tgt := 1146) dL_law_39 (by decide) (by decide) rfl (by decide) ?_
          exact c_kind hI hn hk hs hC K
        | d + 20, h => exact absurd h (by omega)
      · refine z_tableOut (tgt := 1226) dL_law_39 (Or.inr (by rw [iI_toInt (by omega)]; omega)) (by decide) ?_
        exact K a σ o5 o6 cells slots hI (hC.step (fun h => h) (by omega) (by omega))

