/-! THE GATES: which exception a question throws is known at once -/
def eIAE : String := "java/lang/IllegalArgumentException"
def eNSE : String := "java/util/NoSuchElementException"
section GATES
variable {p lo hi : Int32} {Q Q' : ac_m → Prop} {X X' : String → ac_m → Prop} {s : ac_m}
theorem gt_need (h : w_X11_need p Q X s) (hQ : ∀ s, Q s → Q' s) (hX : ∀ s, X "java/lang/IllegalArgumentException" s → X' "java/lang/IllegalArgumentException" s) : w_X11_need p Q' X' s := by
  unfold w_X11_need at *
  exact ⟨fun c => hQ _ (h.1 c), fun c => hX _ (h.2 c)⟩
theorem gt_needWithin (h : w_X11_needWithin p lo hi Q X s) (hQ : ∀ s, Q s → Q' s) (hX : ∀ s, X "java/lang/IllegalArgumentException" s → X' "java/lang/IllegalArgumentException" s) : w_X11_needWithin p lo hi Q' X' s := by
  unfold w_X11_needWithin at *
  exact ⟨fun c => gt_need (h.1 c) hQ hX, fun c => ⟨fun c2 => gt_need ((h.2 c).1 c2) hQ hX, fun c2 => gt_need ((h.2 c).2 c2) hQ hX⟩⟩
theorem gt_needNumber (h : w_X11_needNumber p lo Q X s) (hQ : ∀ s, Q s → Q' s) (hX : ∀ s, X "java/util/NoSuchElementException" s → X' "java/util/NoSuchElementException" s) : w_X11_needNumber p lo Q' X' s := by
  unfold w_X11_needNumber at *
  exact ⟨fun c => hX _ (h.1 c), fun c => ⟨fun c2 => hQ _ ((h.2 c).1 c2), fun c2 => hX _ ((h.2 c).2 c2)⟩⟩
theorem gt_needFolk (h : w_X11_needFolk p Q X s) (hQ : ∀ s, Q s → Q' s) (hX : ∀ s, X "java/util/NoSuchElementException" s → X' "java/util/NoSuchElementException" s) : w_X11_needFolk p Q' X' s := by
  unfold w_X11_needFolk at *
  exact gt_needNumber h hQ hX
theorem gt_needBeast (h : w_X11_needBeast p Q X s) (hQ : ∀ s, Q s → Q' s) (hX : ∀ s, X "java/util/NoSuchElementException" s → X' "java/util/NoSuchElementException" s) : w_X11_needBeast p Q' X' s := by
  unfold w_X11_needBeast at *
  exact gt_needNumber h hQ hX
end GATES
theorem gt_hasFolk {p : Int32} {Q Q' : Int32 → ac_m → Prop} {s : ac_m} (h : w_X3_hasFolk p Q s) (hQ : ∀ r s, Q r s → Q' r s) : w_X3_hasFolk p Q' s := by
  unfold w_X3_hasFolk at *
  exact ⟨fun c => hQ _ _ (h.1 c), fun c => ⟨fun c2 => hQ _ _ ((h.2 c).1 c2), fun c2 => ⟨fun c3 => hQ _ _ (((h.2 c).2 c2).1 c3), fun c3 => hQ _ _ (((h.2 c).2 c2).2 c3)⟩⟩⟩
theorem ee_hills {p1 : Int32} {Q : Int32 → ac_m → Prop} {X : String → ac_m → Prop} {s : ac_m} (h : w_X11_hills p1 Q X s) : w_X11_hills p1 Q (fun E s => E = "java/lang/IllegalArgumentException" ∧ X E s) s := by
  unfold w_X11_hills at *
  refine gt_needWithin h (fun s h => ?_) (fun s h => ⟨rfl, h⟩)
  exact h
theorem ee_law {p1 : Int32} {Q : Int32 → ac_m → Prop} {X : String → ac_m → Prop} {s : ac_m} (h : w_X11_law p1 Q X s) : w_X11_law p1 Q (fun E s => E = "java/lang/IllegalArgumentException" ∧ X E s) s := by
  unfold w_X11_law at *
  refine gt_needWithin h (fun s h => ?_) (fun s h => ⟨rfl, h⟩)
  exact h
theorem ee_work {p1 : Int32} {Q : Int32 → ac_m → Prop} {X : String → ac_m → Prop} {s : ac_m} (h : w_X11_work p1 Q X s) : w_X11_work p1 Q (fun E s => E = "java/lang/IllegalArgumentException" ∧ X E s) s := by
  unfold w_X11_work at *
  refine gt_needWithin h (fun s h => ?_) (fun s h => ⟨rfl, h⟩)
  exact h
theorem ee_book {p1 : Int32} {Q : Int32 → ac_m → Prop} {X : String → ac_m → Prop} {s : ac_m} (h : w_X11_book p1 Q X s) : w_X11_book p1 Q (fun E s => E = "java/lang/IllegalArgumentException" ∧ X E s) s := by
  unfold w_X11_book at *
  refine gt_needWithin h (fun s h => ?_) (fun s h => ⟨rfl, h⟩)
  exact h
theorem ee_told {p1 : Int32} {Q : Int32 → ac_m → Prop} {X : String → ac_m → Prop} {s : ac_m} (h : w_X11_told p1 Q X s) : w_X11_told p1 Q (fun E s => E = "java/lang/IllegalArgumentException" ∧ X E s) s := by
  unfold w_X11_told at *
  refine gt_needWithin h (fun s h => ?_) (fun s h => ⟨rfl, h⟩)
  exact h
theorem ee_folk {p1 p2 : Int32} {Q : Int32 → ac_m → Prop} {X : String → ac_m → Prop} {s : ac_m} (h : w_X11_folk p1 p2 Q X s) : w_X11_folk p1 p2 Q (fun E s => (E = "java/util/NoSuchElementException" ∨ E = "java/lang/IllegalArgumentException") ∧ X E s) s := by
  unfold w_X11_folk at *
  refine gt_needFolk h (fun s h => ?_) (fun s h => ⟨Or.inl rfl, h⟩)
  refine gt_needWithin h (fun s h => ?_) (fun s h => ⟨Or.inr rfl, h⟩)
  exact h
theorem ee_beast {p1 p2 : Int32} {Q : Int32 → ac_m → Prop} {X : String → ac_m → Prop} {s : ac_m} (h : w_X11_beast p1 p2 Q X s) : w_X11_beast p1 p2 Q (fun E s => (E = "java/util/NoSuchElementException" ∨ E = "java/lang/IllegalArgumentException") ∧ X E s) s := by
  unfold w_X11_beast at *
  refine gt_needBeast h (fun s h => ?_) (fun s h => ⟨Or.inl rfl, h⟩)
  refine gt_needWithin h (fun s h => ?_) (fun s h => ⟨Or.inr rfl, h⟩)
  exact h
theorem ee_fair {p1 p2 : Int32} {Q : Int32 → ac_m → Prop} {X : String → ac_m → Prop} {s : ac_m} (h : w_X11_fair p1 p2 Q X s) : w_X11_fair p1 p2 Q (fun E s => (E = "java/util/NoSuchElementException" ∨ E = "java/lang/IllegalArgumentException") ∧ X E s) s := by
  unfold w_X11_fair at *
  refine gt_needNumber h (fun s h => ?_) (fun s h => ⟨Or.inl rfl, h⟩)
  refine gt_needWithin h (fun s h => ?_) (fun s h => ⟨Or.inr rfl, h⟩)
  exact h
theorem ee_cool {p1 p2 : Int32} {Q : Int32 → ac_m → Prop} {X : String → ac_m → Prop} {s : ac_m} (h : w_X11_cool p1 p2 Q X s) : w_X11_cool p1 p2 Q (fun E s => E = "java/util/NoSuchElementException" ∧ X E s) s := by
  unfold w_X11_cool at *
  refine gt_needFolk h (fun s h => ?_) (fun s h => ⟨rfl, h⟩)
  refine gt_needFolk h (fun s h => ?_) (fun s h => ⟨rfl, h⟩)
  exact h
theorem ee_would {p1 p2 p3 p4 p5 p6 p7 p8 : Int32} {Q : Int32 → ac_m → Prop} {X : String → ac_m → Prop} {s : ac_m} (h : w_X11_would p1 p2 p3 p4 p5 p6 p7 p8 Q X s) : w_X11_would p1 p2 p3 p4 p5 p6 p7 p8 Q (fun E s => E = "java/lang/IllegalArgumentException" ∧ X E s) s := by
  unfold w_X11_would at *
  refine gt_needWithin h (fun s h => ?_) (fun s h => ⟨rfl, h⟩)
  refine gt_needWithin h (fun s h => ?_) (fun s h => ⟨rfl, h⟩)
  refine gt_needWithin h (fun s h => ?_) (fun s h => ⟨rfl, h⟩)
  refine gt_needWithin h (fun s h => ?_) (fun s h => ⟨rfl, h⟩)
  refine gt_needWithin h (fun s h => ?_) (fun s h => ⟨rfl, h⟩)
  refine gt_needWithin h (fun s h => ?_) (fun s h => ⟨rfl, h⟩)
  refine gt_needWithin h (fun s h => ?_) (fun s h => ⟨rfl, h⟩)
  refine gt_needWithin h (fun s h => ?_) (fun s h => ⟨rfl, h⟩)
  exact h
theorem ee_ahead {p1 p2 : Int32} {Q : Int32 → ac_m → Prop} {X : String → ac_m → Prop} {s : ac_m} (h : w_X11_ahead p1 p2 Q X s) : w_X11_ahead p1 p2 Q (fun E s => E = "java/lang/IllegalArgumentException" ∧ X E s) s := by
  unfold w_X11_ahead at *
  refine gt_needWithin h (fun s h => ?_) (fun s h => ⟨rfl, h⟩)
  refine gt_needWithin h (fun s h => ?_) (fun s h => ⟨rfl, h⟩)
  exact h
theorem ee_bare {p1 : Int32} {Q : Int32 → ac_m → Prop} {X : String → ac_m → Prop} {s : ac_m} (h : w_X11_bare p1 Q X s) : w_X11_bare p1 Q (fun E s => E = "java/util/NoSuchElementException" ∧ X E s) s := by
  unfold w_X11_bare at *
  refine gt_needFolk h (fun s h => ?_) (fun s h => ⟨rfl, h⟩)
  exact h
theorem ee_herd {p1 p2 : Int32} {Q : Int32 → ac_m → Prop} {X : String → ac_m → Prop} {s : ac_m} (h : w_X11_herd p1 p2 Q X s) : w_X11_herd p1 p2 Q (fun E s => (E = "java/util/NoSuchElementException" ∨ E = "java/lang/IllegalArgumentException") ∧ X E s) s := by
  unfold w_X11_herd at *
  refine gt_needFolk h (fun s h => ?_) (fun s h => ⟨Or.inl rfl, h⟩)
  refine gt_needWithin h (fun s h => ?_) (fun s h => ⟨Or.inr rfl, h⟩)
  exact h
theorem ee_paid {p1 p2 : Int32} {Q : Int32 → ac_m → Prop} {X : String → ac_m → Prop} {s : ac_m} (h : w_X11_paid p1 p2 Q X s) : w_X11_paid p1 p2 Q (fun E s => (E = "java/util/NoSuchElementException" ∨ E = "java/lang/IllegalArgumentException") ∧ X E s) s := by
  unfold w_X11_paid at *
  refine gt_needBeast h (fun s h => ?_) (fun s h => ⟨Or.inl rfl, h⟩)
  refine gt_needWithin h (fun s h => ?_) (fun s h => ⟨Or.inr rfl, h⟩)
  exact h
theorem ee_unseen {p1 p2 : Int32} {Q : Int32 → ac_m → Prop} {X : String → ac_m → Prop} {s : ac_m} (h : w_X11_unseen p1 p2 Q X s) : w_X11_unseen p1 p2 Q (fun E s => (E = "java/util/NoSuchElementException" ∨ E = "java/lang/IllegalArgumentException") ∧ X E s) s := by
  unfold w_X11_unseen at *
  refine gt_needFolk h (fun s h => ?_) (fun s h => ⟨Or.inl rfl, h⟩)
  refine gt_needWithin h (fun s h => ?_) (fun s h => ⟨Or.inr rfl, h⟩)
  exact h
theorem ee_look {p1 p2 : Int32} {Q : Int32 → ac_m → Prop} {X : String → ac_m → Prop} {s : ac_m} (h : w_X11_look p1 p2 Q X s) : w_X11_look p1 p2 Q (fun E s => (E = "java/util/NoSuchElementException" ∨ E = "java/lang/IllegalArgumentException") ∧ X E s) s := by
  unfold w_X11_look at *
  refine gt_needFolk h (fun s h => ?_) (fun s h => ⟨Or.inl rfl, h⟩)
  refine gt_needWithin h (fun s h => ?_) (fun s h => ⟨Or.inr rfl, h⟩)
  exact h
theorem ee_way {p1 p2 : Int32} {Q : Int32 → ac_m → Prop} {X : String → ac_m → Prop} {s : ac_m} (h : w_X11_way p1 p2 Q X s) : w_X11_way p1 p2 Q (fun E s => E = "java/util/NoSuchElementException" ∧ X E s) s := by
  unfold w_X11_way at *
  refine gt_needFolk h (fun s h => ?_) (fun s h => ⟨rfl, h⟩)
  refine gt_needFolk h (fun s h => ?_) (fun s h => ⟨rfl, h⟩)
  exact h
theorem ee_price {p1 p2 : Int32} {Q : Int32 → ac_m → Prop} {X : String → ac_m → Prop} {s : ac_m} (h : w_X11_price p1 p2 Q X s) : w_X11_price p1 p2 Q (fun E s => E = "java/lang/IllegalArgumentException" ∧ X E s) s := by
  unfold w_X11_price at *
  refine gt_needWithin h (fun s h => ?_) (fun s h => ⟨rfl, h⟩)
  refine gt_needWithin h (fun s h => ?_) (fun s h => ⟨rfl, h⟩)
  exact h
theorem ee_owing {p1 p2 p3 : Int32} {Q : Int32 → ac_m → Prop} {X : String → ac_m → Prop} {s : ac_m} (h : w_X11_owing p1 p2 p3 Q X s) : w_X11_owing p1 p2 p3 Q (fun E s => E = "java/lang/IllegalArgumentException" ∧ X E s) s := by
  unfold w_X11_owing at *
  refine gt_needWithin h (fun s h => ?_) (fun s h => ⟨rfl, h⟩)
  refine gt_needWithin h (fun s h => ?_) (fun s h => ⟨rfl, h⟩)
  refine gt_needWithin h (fun s h => ?_) (fun s h => ⟨rfl, h⟩)
  exact h
theorem ee_home {p1 p2 p3 p4 : Int32} {Q : Int64 → ac_m → Prop} {X : String → ac_m → Prop} {s : ac_m} (h : w_X11_home p1 p2 p3 p4 Q X s) : w_X11_home p1 p2 p3 p4 Q (fun E s => E = "java/lang/IllegalArgumentException" ∧ X E s) s := by
  unfold w_X11_home at *
  refine gt_needWithin h (fun s h => ?_) (fun s h => ⟨rfl, h⟩)
  refine gt_needWithin h (fun s h => ?_) (fun s h => ⟨rfl, h⟩)
  refine gt_needWithin h (fun s h => ?_) (fun s h => ⟨rfl, h⟩)
  refine gt_needWithin h (fun s h => ?_) (fun s h => ⟨rfl, h⟩)
  exact h
theorem ee_share {p1 p2 p3 : Int32} {Q : Int32 → ac_m → Prop} {X : String → ac_m → Prop} {s : ac_m} (h : w_X11_share p1 p2 p3 Q X s) : w_X11_share p1 p2 p3 Q (fun E s => (E = "java/util/NoSuchElementException" ∨ E = "java/lang/IllegalArgumentException") ∧ X E s) s := by
  unfold w_X11_share at *
  refine gt_needFolk h (fun s h => ?_) (fun s h => ⟨Or.inl rfl, h⟩)
  refine gt_needWithin h (fun s h => ?_) (fun s h => ⟨Or.inr rfl, h⟩)
  exact ⟨fun c => gt_need (h.1 c) (fun s h => h) (fun s h => ⟨Or.inr rfl, h⟩), fun c => gt_need (h.2 c) (fun s h => h) (fun s h => ⟨Or.inr rfl, h⟩)⟩
theorem ee_heaviest {p1 : Int32} {Q : Int32 → ac_m → Prop} {X : String → ac_m → Prop} {s : ac_m} (h : w_X11_heaviest p1 Q X s) : w_X11_heaviest p1 Q (fun E s => E = "java/lang/IllegalArgumentException" ∧ X E s) s := by
  unfold w_X11_heaviest at *
  refine gt_needWithin h (fun s h => ?_) (fun s h => ⟨rfl, h⟩)
  exact h
theorem ee_oldest {p1 : Int32} {Q : Int32 → ac_m → Prop} {X : String → ac_m → Prop} {s : ac_m} (h : w_X11_oldest p1 Q X s) : w_X11_oldest p1 Q (fun E s => E = "java/lang/IllegalArgumentException" ∧ X E s) s := by
  unfold w_X11_oldest at *
  refine gt_needWithin h (fun s h => ?_) (fun s h => ⟨rfl, h⟩)
  exact h
theorem ee_good {p1 : Int32} {Q : Int32 → ac_m → Prop} {X : String → ac_m → Prop} {s : ac_m} (h : w_X11_good p1 Q X s) : w_X11_good p1 Q (fun E s => E = "java/lang/IllegalArgumentException" ∧ X E s) s := by
  unfold w_X11_good at *
  refine gt_needWithin h (fun s h => ?_) (fun s h => ⟨rfl, h⟩)
  exact h
theorem ee_kind {p1 : Int32} {Q : Int32 → ac_m → Prop} {X : String → ac_m → Prop} {s : ac_m} (h : w_X11_kind p1 Q X s) : w_X11_kind p1 Q (fun E s => E = "java/lang/IllegalArgumentException" ∧ X E s) s := by
  unfold w_X11_kind at *
  refine gt_needWithin h (fun s h => ?_) (fun s h => ⟨rfl, h⟩)
  exact h
theorem ee_weighs {p1 p2 : Int32} {Q : Int32 → ac_m → Prop} {X : String → ac_m → Prop} {s : ac_m} (h : w_X11_weighs p1 p2 Q X s) : w_X11_weighs p1 p2 Q (fun E s => (E = "java/util/NoSuchElementException" ∨ E = "java/lang/IllegalArgumentException") ∧ X E s) s := by
  unfold w_X11_weighs at *
  refine gt_needFolk h (fun s h => ?_) (fun s h => ⟨Or.inl rfl, h⟩)
  refine gt_needWithin h (fun s h => ?_) (fun s h => ⟨Or.inr rfl, h⟩)
  exact h
theorem ee_lightest {p1 : Int32} {Q : Int32 → ac_m → Prop} {X : String → ac_m → Prop} {s : ac_m} (h : w_X11_lightest p1 Q X s) : w_X11_lightest p1 Q (fun E s => E = "java/lang/IllegalArgumentException" ∧ X E s) s := by
  unfold w_X11_lightest at *
  refine gt_needWithin h (fun s h => ?_) (fun s h => ⟨rfl, h⟩)
  exact h
theorem ee_coolest {p1 : Int32} {Q : Int32 → ac_m → Prop} {X : String → ac_m → Prop} {s : ac_m} (h : w_X11_coolest p1 Q X s) : w_X11_coolest p1 Q (fun E s => E = "java/lang/IllegalArgumentException" ∧ X E s) s := by
  unfold w_X11_coolest at *
  refine gt_needWithin h (fun s h => ?_) (fun s h => ⟨rfl, h⟩)
  exact h
theorem ee_round {p1 : Int32} {Q : Int32 → ac_m → Prop} {X : String → ac_m → Prop} {s : ac_m} (h : w_X11_round p1 Q X s) : w_X11_round p1 Q (fun E s => E = "java/util/NoSuchElementException" ∧ X E s) s := by
  unfold w_X11_round at *
  refine gt_needFolk h (fun s h => ?_) (fun s h => ⟨rfl, h⟩)
  exact h
theorem ee_decade {p1 p2 p3 p4 : Int32} {Q : Int32 → ac_m → Prop} {X : String → ac_m → Prop} {s : ac_m} (h : w_X11_decade p1 p2 p3 p4 Q X s) : w_X11_decade p1 p2 p3 p4 Q (fun E s => E = "java/lang/IllegalArgumentException" ∧ X E s) s := by
  unfold w_X11_decade at *
  refine gt_needWithin h (fun s h => ?_) (fun s h => ⟨rfl, h⟩)
  refine gt_needWithin h (fun s h => ?_) (fun s h => ⟨rfl, h⟩)
  refine gt_needWithin h (fun s h => ?_) (fun s h => ⟨rfl, h⟩)
  exact h
theorem ee_span {p1 p2 p3 p4 p5 p6 : Int32} {Q : Int32 → ac_m → Prop} {X : String → ac_m → Prop} {s : ac_m} (h : w_X11_span p1 p2 p3 p4 p5 p6 Q X s) : w_X11_span p1 p2 p3 p4 p5 p6 Q (fun E s => E = "java/lang/IllegalArgumentException" ∧ X E s) s := by
  unfold w_X11_span at *
  refine gt_needWithin h (fun s h => ?_) (fun s h => ⟨rfl, h⟩)
  refine gt_needWithin h (fun s h => ?_) (fun s h => ⟨rfl, h⟩)
  refine gt_needWithin h (fun s h => ?_) (fun s h => ⟨rfl, h⟩)
  refine gt_needWithin h (fun s h => ?_) (fun s h => ⟨rfl, h⟩)
  refine gt_hasFolk h (fun r s h => ?_)
  refine gt_need h (fun s h => ?_) (fun s h => ⟨rfl, h⟩)
  exact h
