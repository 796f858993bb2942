theorem ln_len {h h' : ri_H} (e : ln_R h h') (hl : (eh_N h).take 209 = NCl) : (eh_N h').take 209 = NCl := by
  obtain ⟨t, ht⟩ := e
  have e : ∀ g : ri_H, eh_N g = (eh_S g).map Prod.snd := fun g => by
    unfold eh_N eh_S
    rw [List.map_map]
    rfl
  have h1 : ((eh_N h).take 209).length = 209 := by rw [hl]; rfl
  rw [List.length_take] at h1
  rw [e h', ht, List.map_append, ← e h, List.take_append_of_le_length (by omega), hl]
theorem ln_N {d j : Nat} {as : List Value} {h h' : ri_H} {v : Option Value} (e : ri_calE ri_md d j as h = some (v, h')) (hl : (eh_N h).take 209 = NCl) : (eh_N h').take 209 = NCl := ln_len (ln_calE d j as h v h' e) hl
