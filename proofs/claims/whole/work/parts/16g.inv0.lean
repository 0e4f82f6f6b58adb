section TYG
/-! ===== what holds of the two fresh objects ===== -/
theorem fresh_inv {now : LV} (h : ∀ k, k < 215 → now k = r0 k) : Inv 0 (fun _ => 0) t0 (fun _ => 0) P0 P1 P2 P3 P4 (fun _ => 0) zC zCl (fun _ => 0) (fun _ => 0) (fun _ _ => 0) (fun _ _ => 0) (fun _ => 0) (fun _ => 0) (fun _ => 0) (fun _ _ => 0) (fun _ => zC) (fun _ => zCl) (fun _ _ => 0) (fun _ _ => 0) (fun _ _ _ => 0) (fun _ _ _ => 0) (fun _ _ => 0) (fun _ => zC) (fun _ => zCl) (fun _ _ => 0) (fun _ _ => 0) (fun _ _ _ => 0) (fun _ _ _ => 0) o0 now (fun _ => 0) (fun _ => 0) (fun _ => 0) (fun _ => 0) (fun _ => 0) := by
  obtain ⟨a1, a2, a3, _, a4, a5, a6⟩ := fresh_r h
  refine ⟨tx_empty rfl rfl rfl, a2, a3, fresh_b h _ _, ⟨0, 0, by decide, by decide, rfl, rfl, rfl, fun i hi => absurd hi (by omega)⟩, fun s hs => ⟨rfl, Or.inl rfl, fun w => absurd rfl w⟩, ⟨0, by decide, rfl, rfl, fun k hk => absurd hk (by omega)⟩⟩
end TYG
