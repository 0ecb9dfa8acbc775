section
variable {μ μ' : zM} {d kc ks kc' ks' pc nx k : Nat} {L L' : zL} {st as : List Value} {S : zS} {I : zI} {J : zJ} {Q Q' : zQ} {tb : zTb}
/-- throw new E("text"), the text by a wide index -/
theorem z_throwW {cls text : String} {ik ic is : Nat} (ht : zT μ tb) (hk : zat tb k = some (pc, .new ik, 3, nx)) (hd3 : decode μ.2.1 (pc + 3) = .ok (.dup, 1)) (hd4 : decode μ.2.1 (pc + 4) = .ok (.ldc_w is, 3)) (hd6 : decode μ.2.1 (pc + 7) = .ok (.invokespecial ic, 3)) (hd9 : decode μ.2.1 (pc + 10) = .ok (.athrow, 1))
    (hno : μ.2.2.2.2 = []) (hT : zThrown μ.1.cls cls ik ic is text) (hst : (st.map fun v => v.category).sum ≤ 50) (hkc : 1 ≤ kc) (hks : 6 ≤ ks) (hq : Q (.inr cls) S I J) : Z μ d kc ks pc L st S I J Q := by
  intro p l e R s m args below meth c X D aC ad ad0 n0 ls H locs cells slots mc ms hF hB hH hG hS hL hc hs
  obtain ⟨hd, rfl⟩ := ht.at hk
  obtain ⟨t1, t2, t3, t4, t5, t6, t7⟩ := hT
  have hts := hF.2.2.2.2.1
  have hfr := hF.2.2.2.2.2.2.2.2.2.2
  obtain ⟨sa, hsa⟩ := hB.2.2.2.2.1 _ t4
  refine vx_throwSW (A := zA X.1) (names := ["java/lang/RuntimeException", "java/lang/Exception"]) hF.1 hF.2.1 hF.2.2.2.2.2.2.2.2.2.1 hF.2.2.2.1 t1 (by decide +kernel) (hts _ t2) (hts _ t3) hsa ?_ t7 hB.2.2.2.2.2.1 hB.2.2.2.2.2.2.1 hS (hL.1.trans hF.2.2.1.symm) hd hd3 hd4 hd6 hd9 (by rw [hF.2.2.2.2.2.2.2.1, hno]; intro x hx; cases hx)
    (by show 2 + 3 < R.frames; omega) (by rw [zcat]; show _ + (13 * (2 + 1) + 43) ≤ _; omega) (by omega) (by omega) hF.2.2.2.2.2.2.1 ?_ (fun z hz => hS.2.2 z hz) (by omega) (by omega)
  · refine vx_hat (B := (zCas.map fun q => Cond.castable q.1 q.2) ++ zDc.map Cond.declares) (fun w hw => hts w (t5 w hw)) t6 (fun w hw => ?_)
    rcases List.mem_append.mp hw with hw | hw
    · obtain ⟨q, hq1, rfl⟩ := List.mem_map.mp hw
      exact va_Nw.use rfl (hB.2.2.2.2.2.2.2.2.2.1.1 q hq1)
    · obtain ⟨y, hq1, rfl⟩ := List.mem_map.mp hw
      exact va_Nw.use rfl (hB.2.2.2.2.2.2.2.2.2.1.2 y hq1)
  · intro t hvm hz hk2
    exact ⟨⟨S, I, J, ad, hq, ⟨hH.1.kept (fun k q hk => hk2 q.1 (hH.1 k q hk).lt), hH.2.1, hH.2.2⟩, hG⟩, Nat.le_trans hS.1 hz, fun q h1 h2 => (hk2 q (Nat.lt_of_lt_of_le h1 hS.1)).trans (hS.2.1 q h1 h2)⟩
end
