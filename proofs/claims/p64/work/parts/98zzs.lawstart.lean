/-! THE LAW: its start -/
section SM4
variable {h h' : Hp} {lo hi : Nat}
theorem RrS.sm (S : RrS h) (G : Sm h h' 0 241) : RrS h' := by
  obtain ⟨a1, a2, a3, a4, a5, a6, a7, a8, a9, b1, b2, b3, ⟨c1, c2⟩, ⟨d1, d2⟩, e⟩ := S
  refine ⟨(G.hk (by omega) (by omega)).trans a1, (G.hr (by omega) (by omega) _).trans a2, (G.hr (by omega) (by omega) _).trans a3, (G.hr (by omega) (by omega) _).trans a4, (G.hr (by omega) (by omega) _).trans a5, (G.hr (by omega) (by omega) _).trans a6, (G.hr (by omega) (by omega) _).trans a7, (G.hr (by omega) (by omega) _).trans a8, (G.hr (by omega) (by omega) _).trans a9, b1.sm G (by omega) (by omega), b2.sm G (by omega) (by omega), b3.sm G (by omega) (by omega), ⟨(G.hk (by omega) (by omega)).trans c1, (G.hr (by omega) (by omega) _).trans c2⟩, ⟨?_, (G.hl (by omega) (by omega)).trans d2⟩, fun i hi => ⟨(G.hr (by omega) (by omega) _).trans (e i hi).1, (e i hi).2.sm G (by omega) (by omega)⟩⟩
  rw [G.hk (a := 84) (by omega) (by omega)]
  exact d1
end SM4
