theorem oa_C_74 : ∀ a ∈ Bundle.ownAtoms "CardRights" 74 "java/lang/IllegalStateException" cr_chain, (cr_ok a = true ∧ a ∈ lw_tbl) ∨ a ∈ cr_hd := by decide +kernel
theorem own_C_74 {s0 V : State} {D : va_G} {ca : Nat → ClassId} {e0 : Nat} (Z : cr_Z0 s0 D ca e0) (hU : cr_W0 s0 V) (hold : cr_Old s0 V.heap) (args : Array Value) : ∀ a ∈ Bundle.ownAtoms "CardRights" 74 "java/lang/IllegalStateException" cr_chain, a.before args V = true := cr_own Z oa_C_74 hU hold args
theorem oa_C_97 : ∀ a ∈ Bundle.ownAtoms "CardRights" 97 "java/lang/IllegalArgumentException" cr_chain, (cr_ok a = true ∧ a ∈ lw_tbl) ∨ a ∈ cr_hd := by decide +kernel
theorem own_C_97 {s0 V : State} {D : va_G} {ca : Nat → ClassId} {e0 : Nat} (Z : cr_Z0 s0 D ca e0) (hU : cr_W0 s0 V) (hold : cr_Old s0 V.heap) (args : Array Value) : ∀ a ∈ Bundle.ownAtoms "CardRights" 97 "java/lang/IllegalArgumentException" cr_chain, a.before args V = true := cr_own Z oa_C_97 hU hold args
theorem str_72 {s0 : State} {D : va_G} {ca : Nat → ClassId} {e0 : Nat} (Z : cr_Z0 s0 D ca e0) : ∃ a, vk_R "CardRights" 72 "there are as many rooms as may be" a s0 := Z.2.2.2.2.2.1 _ _ _ w_343
theorem str_95 {s0 : State} {D : va_G} {ca : Nat → ClassId} {e0 : Nat} (Z : cr_Z0 s0 D ca e0) : ∃ a, vk_R "CardRights" 95 "a door joins two rooms" a s0 := Z.2.2.2.2.2.1 _ _ _ w_444
theorem str_98 {s0 : State} {D : va_G} {ca : Nat → ClassId} {e0 : Nat} (Z : cr_Z0 s0 D ca e0) : ∃ a, vk_R "CardRights" 98 "there are as many doors as may be" a s0 := Z.2.2.2.2.2.1 _ _ _ w_445
theorem str_109 {s0 : State} {D : va_G} {ca : Nat → ClassId} {e0 : Nat} (Z : cr_Z0 s0 D ca e0) : ∃ a, vk_R "CardRights" 109 "there are as many persons as may be" a s0 := Z.2.2.2.2.2.1 _ _ _ w_507
theorem str_115 {s0 : State} {D : va_G} {ca : Nat → ClassId} {e0 : Nat} (Z : cr_Z0 s0 D ca e0) : ∃ a, vk_R "CardRights" 115 "there is no room to be in" a s0 := Z.2.2.2.2.2.1 _ _ _ w_517
theorem str_133 {s0 : State} {D : va_G} {ca : Nat → ClassId} {e0 : Nat} (Z : cr_Z0 s0 D ca e0) : ∃ a, vk_R "CardRights" 133 "there are as many cards as may be" a s0 := Z.2.2.2.2.2.1 _ _ _ w_550
theorem str_147 {s0 : State} {D : va_G} {ca : Nat → ClassId} {e0 : Nat} (Z : cr_Z0 s0 D ca e0) : ∃ a, vk_R "CardRights" 147 "there are as many rights as may be" a s0 := Z.2.2.2.2.2.1 _ _ _ w_581
theorem str_157 {s0 : State} {D : va_G} {ca : Nat → ClassId} {e0 : Nat} (Z : cr_Z0 s0 D ca e0) : ∃ a, vk_R "CardRights" 157 "there is no such right" a s0 := Z.2.2.2.2.2.1 _ _ _ w_610
theorem str_178 {s0 : State} {D : va_G} {ca : Nat → ClassId} {e0 : Nat} (Z : cr_Z0 s0 D ca e0) : ∃ a, vk_R "CardRights" 178 "an airlock has two doors" a s0 := Z.2.2.2.2.2.1 _ _ _ w_642
theorem str_227 {s0 : State} {D : va_G} {ca : Nat → ClassId} {e0 : Nat} (Z : cr_Z0 s0 D ca e0) : ∃ a, vk_R "CardRights" 227 "one card is not two" a s0 := Z.2.2.2.2.2.1 _ _ _ w_779
theorem str_240 {s0 : State} {D : va_G} {ca : Nat → ClassId} {e0 : Nat} (Z : cr_Z0 s0 D ca e0) : ∃ a, vk_R "CardRights" 240 "a place is not below 0" a s0 := Z.2.2.2.2.2.1 _ _ _ w_801
theorem str_248 {s0 : State} {D : va_G} {ca : Nat → ClassId} {e0 : Nat} (Z : cr_Z0 s0 D ca e0) : ∃ a, vk_R "CardRights" 248 "no such row is kept" a s0 := Z.2.2.2.2.2.1 _ _ _ w_809
theorem str_250 {s0 : State} {D : va_G} {ca : Nat → ClassId} {e0 : Nat} (Z : cr_Z0 s0 D ca e0) : ∃ a, vk_R "CardRights" 250 "a row has no such part" a s0 := Z.2.2.2.2.2.1 _ _ _ w_810
theorem str_272 {s0 : State} {D : va_G} {ca : Nat → ClassId} {e0 : Nat} (Z : cr_Z0 s0 D ca e0) : ∃ a, vk_R "CardRights" 272 "there is no such zone" a s0 := Z.2.2.2.2.2.1 _ _ _ w_307
theorem str_274 {s0 : State} {D : va_G} {ca : Nat → ClassId} {e0 : Nat} (Z : cr_Z0 s0 D ca e0) : ∃ a, vk_R "CardRights" 274 "there is no such group" a s0 := Z.2.2.2.2.2.1 _ _ _ w_506
theorem str_276 {s0 : State} {D : va_G} {ca : Nat → ClassId} {e0 : Nat} (Z : cr_Z0 s0 D ca e0) : ∃ a, vk_R "CardRights" 276 "a day has no such minute" a s0 := Z.2.2.2.2.2.1 _ _ _ w_580
theorem str_279 {s0 : State} {D : va_G} {ca : Nat → ClassId} {e0 : Nat} (Z : cr_Z0 s0 D ca e0) : ∃ a, vk_R "CardRights" 279 "there is no such minute" a s0 := Z.2.2.2.2.2.1 _ _ _ w_549
theorem str_281 {s0 : State} {D : va_G} {ca : Nat → ClassId} {e0 : Nat} (Z : cr_Z0 s0 D ca e0) : ∃ a, vk_R "CardRights" 281 "the minute is over" a s0 := Z.2.2.2.2.2.1 _ _ _ w_662
theorem str_286 {s0 : State} {D : va_G} {ca : Nat → ClassId} {e0 : Nat} (Z : cr_Z0 s0 D ca e0) : ∃ a, vk_R "CardRights" 286 "the door can keep no more rows" a s0 := Z.2.2.2.2.2.1 _ _ _ w_733
theorem str_288 {s0 : State} {D : va_G} {ca : Nat → ClassId} {e0 : Nat} (Z : cr_Z0 s0 D ca e0) : ∃ a, vk_R "CardRights" 288 "there is no such room" a s0 := Z.2.2.2.2.2.1 _ _ _ w_443
theorem str_296 {s0 : State} {D : va_G} {ca : Nat → ClassId} {e0 : Nat} (Z : cr_Z0 s0 D ca e0) : ∃ a, vk_R "CardRights" 296 "the room is none of the door's" a s0 := Z.2.2.2.2.2.1 _ _ _ w_729
theorem str_298 {s0 : State} {D : va_G} {ca : Nat → ClassId} {e0 : Nat} (Z : cr_Z0 s0 D ca e0) : ∃ a, vk_R "CardRights" 298 "there is no such door" a s0 := Z.2.2.2.2.2.1 _ _ _ w_634
theorem str_300 {s0 : State} {D : va_G} {ca : Nat → ClassId} {e0 : Nat} (Z : cr_Z0 s0 D ca e0) : ∃ a, vk_R "CardRights" 300 "there is no such person" a s0 := Z.2.2.2.2.2.1 _ _ _ w_544
theorem str_302 {s0 : State} {D : va_G} {ca : Nat → ClassId} {e0 : Nat} (Z : cr_Z0 s0 D ca e0) : ∃ a, vk_R "CardRights" 302 "there is no such card" a s0 := Z.2.2.2.2.2.1 _ _ _ w_622
