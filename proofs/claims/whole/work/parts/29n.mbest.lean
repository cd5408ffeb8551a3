/-! The model's lowest best fence. -/
theorem q_mbest {rS O W : Nat → Int32} (h31 : bt (rS 0) 31 = false) (h8 : un (rS 0) 31 ≤ 8) (hc : c31 (rS 0) < 31) (ho : opn (rS 0) O) (hW : wok (rS 0) W 0) : k_loop (t_X8_bestFence_25 (nI (un (rS 0) 31)) 0 rS O W) 1000 0 = some (.inr (nI (fbest (rS 0)))) := by
  obtain ⟨b1, b2, b3, b4⟩ := fbest_ok hc
  have hpos := pw_pos _ h8
  have hx := tb_none (x := rS 0) h31
  have hV : (W 0).toInt = VV (rS 0) := by rw [hW 0 (Nat.le_refl _) hpos, hx]
  have hun := un_lt b1 b2
  have hr : ∀ f, f < 31 → bt (rS 0) f = false → ∃ r : Int32, f_X8_by 0 (nI (un (rS 0) f)) (nI (un (rS 0) 31)) rS O W = some r ∧ r.toInt = mv (rS 0) f := by
    intro f hf hb
    obtain ⟨r, r1, r2⟩ := q_by (m := 0) h31 h8 ho hpos hf hb rfl (Nat.zero_testBit _) (fun m h1 h2 => hW m (by omega) h2)
    rw [hx] at r2
    exact ⟨r, r1, r2⟩
  refine k_for (step := t_X8_bestFence_25 (nI (un (rS 0) 31)) 0 rS O W) (fun i => nI i) (un (rS 0) (fbest (rS 0))) (.inr (nI (fbest (rS 0)))) ?_ ?_ 1000 (by omega)
  · intro i hi
    obtain ⟨f, hf, hb, hu⟩ := un_kth (x := rS 0) (i := i) (by omega)
    obtain ⟨r, r1, r2⟩ := hr f hf hb
    rw [hu] at r1
    have hne : ¬ r = W 0 := fun q => b4 f (un_back hb b2 (by omega)) hb (by rw [← r2, ← hV, q])
    unfold t_X8_bestFence_25
    rw [if_neg (nI_ge (by omega) (by omega)), if_pos rfl]
    refine (k_bs r1).trans ?_
    rw [if_neg hne, nI_1 i]
  · obtain ⟨r, r1, r2⟩ := hr _ b1 b2
    have he : r = W 0 := (fa_eq _ _).mpr (by rw [r2, hV, b3])
    have hg := nI_in (c := un (rS 0) (fbest (rS 0))) (N := 31) (by omega) (by decide)
    unfold t_X8_bestFence_25
    rw [if_neg (nI_ge (by omega) (by omega)), if_pos rfl]
    refine (k_bs r1).trans ?_
    rw [if_pos he, if_neg hg, nI_clamp (by omega), ho _ b1 b2]
