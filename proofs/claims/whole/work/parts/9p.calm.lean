theorem rf_S {c0 : Int32} {fc fk g : Nat → Int32} {a : Nat} (ha : c0 = nI a) (ha9 : a ≤ 99) : ∀ nf : Nat, nf ≤ 12 → (∀ i, i < nf → ∃ ce k : Nat, fc i = nI ce ∧ ce < 12 ∧ fk i = nI k ∧ k ≤ 99) → ∀ c, c < 12 → ∃ S : Nat, cmR c0 fc fk (nI c) nf = nI S ∧ S ≤ 99 + 99 * nf ∧ rfC c0 fc fk g nf c = nI (if S < 100 then S else 100)
  | 0, _, _, c, hc => ⟨a, ha, by omega, by
    show pre 12 (fun _ => c0) g c = _
    rw [show pre 12 (fun _ => c0) g c = c0 from if_pos hc, if_pos (show a < 100 by omega)]; exact ha⟩
  | i + 1, hn, hf, c, hc => by
    obtain ⟨S, h1, h2, h3⟩ := rf_S (g := g) ha ha9 i (by omega) (fun j hj => hf j (by omega)) c hc
    obtain ⟨ce, k, e1, e2, e3, e4⟩ := hf i (by omega)
    have ecl : (fc i).toNatClampNeg = ce := by rw [e1]; exact nI_clamp (by omega)
    show ∃ S : Nat, cmR c0 fc fk (nI c) i + (if fc i = nI c then fk i else 0) = nI S ∧ _ ∧ upd (rfC c0 fc fk g i) (fc i).toNatClampNeg (mn 100 (rfC c0 fc fk g i (fc i).toNatClampNeg + fk i)) c = _
    rw [ecl]
    by_cases e : c = ce
    · subst e
      rw [if_pos e1, pk_us, h1, h3, e3, nI_add, nI_add]
      refine ⟨S + k, rfl, by omega, ?_⟩
      rw [show (100 : Int32) = nI 100 from rfl, mn_nI (by decide) (by split <;> omega)]
      congr 1
      split <;> split <;> (try split) <;> omega
    · rw [if_neg (fun g => e (nI_inj (by omega) (by omega) (g.symm.trans e1))), pk_un e, h1, h3, Int32.add_zero]
      exact ⟨S, rfl, by omega, rfl⟩
theorem rf_cas {n nf : Nat} {c0 : Int32} {fc fk g : Nat → Int32} {a : Nat} (hn : n ≤ 12) (ha : c0 = nI a) (ha9 : a ≤ 99) (hnf : nf ≤ 12) (hf : ∀ i, i < nf → ∃ ce k : Nat, fc i = nI ce ∧ ce < 12 ∧ fk i = nI k ∧ k ≤ 99) : cas n nf c0 fc fk (rfC c0 fc fk g nf) := by
  intro c hc
  obtain ⟨S, h1, h2, h3⟩ := rf_S (g := g) ha ha9 nf hnf hf c (by omega)
  rw [h1, h3, show (100 : Int32) = nI 100 from rfl, mn_nI (by decide) (by omega)]
