theorem law_T {n : Nat} {sc : Nat → Int} {σ : Wd} (hn : n ≤ 2048) (hs : ∀ j, i32 (sc j)) (h140 : σ 140 = some (foI n (fun j => iI (sc j)))) (hz : ∀ q, q ≠ 140 → σ q = none) : TL 0 (lent0 7 [.ref 140]) [] σ 0 0 := by
  refine z_newD cls5 clL_8 itX6 in_CrowdDesk dL_law_0 0 (hz 0 (by decide)) [.null, .null, .null, .int (iI (bI false))] rfl rfl (by decide) (by decide) ?_
  refine z_dup dL_law_3 rfl ?_
  refine z_callI (k_X6_init _ (up_self _ _ _) (fun q hq => (up_ne _ _ (by omega)).trans (hz q (by omega)))) mL_70 dL_law_4 rfl rfl ⟨by decide, by decide⟩ (Nat.le_of_ble_eq_true rfl) ⟨by decide, by decide⟩ (fun r u hq => ?_)
  obtain ⟨rfl, hu, u0, u2, uF, u7, u8, u9, u10⟩ := hq
  have hun : ∀ q, 65 ≤ q → q ≠ 140 → u q = none := fun q h1 h2 => (hu q h1).trans ((up_ne _ _ (by omega)).trans (hz q h2))
  have hD : DK u A0 := ⟨fun _ => 0, fun _ => 0, fun _ _ => 0, fun _ _ => 0, fun _ _ => 0, fun _ => 0, 0, 0, .null, uF, (fun k hk => absurd hk (Nat.not_lt_zero _)), u0, u2, u7, u8, u9, u10, (fun i hi => absurd hi (Nat.not_lt_zero _)), (fun h => by cases h), Or.inl ⟨rfl, rfl, fun q h1 h2 => hun q (by omega) (by omega)⟩⟩
  refine z_astore_n dL_law_7 (by decide) ?_
  refine z_newD cls6 clL_71 itX7 in_CrowdDeskModel dL_law_8 100 (hun 100 (by decide) (by decide)) [.int (iI 0), .null, .int (iI 0), .null, .null, .null, .null, .int (iI 0), .null, .null, .null, .null, .int (iI (bI false)), .null, .int (iI 0), .null, .null, .int (iI 0), .int (iI 0), .int (iI 0), .null, .null, .null, .int (iI (bI false)), .null] rfl rfl (by decide) (by decide) ?_
  refine z_dup dL_law_11 rfl ?_
  refine z_callI (m_init (up_self _ _ _) (fun q h1 h2 => (up_ne _ _ (by omega)).trans (hun q (by omega) (by omega)))) mL_73 dL_law_12 rfl rfl ⟨by decide, by decide⟩ (Nat.le_of_ble_eq_true rfl) ⟨by decide, by decide⟩ (fun r v hq => ?_)
  obtain ⟨rfl, hM, hG⟩ := hq
  refine z_astore_n dL_law_15 (by decide) ?_
  refine i_iconst dL_law_16 rfl ?_
  refine i_newL (N := 1) (inW1 111 rfl rfl) dL_law_17 130 ((hG 130 (Or.inr (by decide))).trans ((up_ne _ _ (by decide)).trans (hun 130 (by decide) (by decide)))) rfl (by decide) (by decide) (by decide) ?_
  refine z_astore_n dL_law_19 (by decide) ?_
  refine i_iconst dL_law_20 rfl ?_
  refine z_istore dL_law_21 (by decide) ?_
  refine law_loop hn hs 513 0 rfl (by omega) A0 _ none none _ _ ⟨hD.fr (fun q hq => (up_ne _ _ (by omega)).trans ((hG q (Or.inl hq)).trans (up_ne _ _ (by omega)))), ⟨0, hM.fr (fun q h1 h2 => up_ne _ _ (by omega))⟩, v0, ⟨_, up_self _ _ _⟩, ?_⟩ ⟨?_, ?_⟩
  · exact (up_ne _ _ (by decide)).trans ((hG 140 (Or.inr (by decide))).trans ((up_ne _ _ (by decide)).trans ((hu 140 (by decide)).trans ((up_ne _ _ (by decide)).trans h140))))
  · exact Nat.le_trans (show _ ≤ 100 by decide) (by omega)
  · exact Nat.le_trans (show _ ≤ 40000 by decide) (by omega)

