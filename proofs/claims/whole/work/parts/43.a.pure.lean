/-! ===== the class: swap, books sifted, saturdays ===== -/
theorem Cls_sift {G G0 G1 : xHp} {h x lo : Nat} {tp : Nat → Nat} {tn : Nat} {rs : List (List Nat)} {ruf ima : Nat → Option Nat} {c : xCo} {im : Nat → Option xCo} {ru : Option Nat} {hk : xHl} {rk : xRw} {rt : Option Nat} {ch mo fs : Int32} {fi : Nat} {al : Nat → Nat} (hM : ClsM G x tp tn rs.length ruf ima c ru) (hE : ClsE G h x lo rs ruf ima c im ru) (hB : BooksAt G0 (x + 20) c.2.1.1 c.2.1.2 fi fs al) (hF : ∀ a, ¬ (x + 20 ≤ a ∧ a < x + 25) → G0 a = G a) (hT : TrW G0 G1 x hk rk rt ch mo) : ClsAt G1 h x lo tp tn rs c im ∧ ∀ a, x + 51 ≤ a → a < lo → G1 a = G a := by
  obtain ⟨m1, m2, m3, m4, m5, m6, m7, m8, m9⟩ := hM
  obtain ⟨rows, nx, fi0, fs0, al0, s1, s2, s3, s4, s5⟩ := m7
  obtain ⟨hk0, rk0, rt0, ch0, mo0, tr, B, q1, q2, q3⟩ := m8
  have e1 := hE.1
  obtain ⟨t1, t2, t3, t4⟩ := id hT
  have hf : ∀ a, ¬ (a = x + 17 ∨ a = x + 18 ∨ (x + 20 ≤ a ∧ a < x + 25) ∨ (x + 36 ≤ a ∧ a < x + 47)) → G1 a = G a := fun a ha => (t4 a (by omega)).trans (hF a (by omega))
  refine ⟨⟨ruf, ima, ru, ⟨(hf _ (by omega)).trans m1, m2.fr (hf _ (by omega)), m3.fr (fun a p q => hf a (by omega)), m4.fr (fun a p q => hf a (by omega)), (hf _ (by omega)).trans m5, t3, ⟨rows, nx, fi, fs, al, (hf _ (by omega)).trans s1, hT.books hB, (hf _ (by omega)).trans s3, s4.fr (fun a p q => hf a (by omega)), s5⟩, ⟨hk, rk, rt, ch, mo, tr, B, t1, t2, q3.fr (fun a p q => hf a (by omega))⟩, (hf _ (by omega)).trans m9⟩, hE.fr (fun a ha => hf a (by omega)) hE.2.2.2.2.1⟩, fun a p q => hf a (by omega)⟩
