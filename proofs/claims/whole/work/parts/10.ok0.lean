/-- the four that throw: what they do when they don't -/
def am_pD : am_P := [[(0, .iload_n 0, 1, 0, 0, .null), (1, .ifCond .ne 11, 3, 12, 0, .null), (12, .return_, 1, 0, 0, .null)]]
abbrev rmX9_isWithin : Room := { frames := 0, cells := 0, slots := 0, locals := 0 }
def cqX9_isWithin : am_C := (yX9_isWithin, .code yX9_isWithin cX9_isWithin 3 (some .boolean), rmX9_isWithin, none, 3, 3)
theorem okX9_isWithin {l : Launch} {dC : Nat → ClassId} {dI ad : Nat → Nat → Nat} {cy : Nat → ClassId} : am_Ok l dC dI ad cy yX9_isWithin (.code yX9_isWithin cX9_isWithin 3 (some .boolean)) rmX9_isWithin fX9_isWithin :=
  am_meth_ok (ci := []) (by decide +kernel) rfl ⟨rfl, rfl⟩ (am_rows_of (by decide +kernel) (am_words_of [] (by decide +kernel) (by decide +kernel))) am_cs_nil (am_cv_of (by decide +kernel))
theorem calX9_isWithin {l : Launch} {dC : Nat → ClassId} {dI ad : Nat → Nat → Nat} {cy : Nat → ClassId} {R : Room} (h1 : rmX9_isWithin.frames + 1 ≤ R.frames) (h2 : 8 + (3 + 11) + rmX9_isWithin.locals ≤ R.locals) : am_Cal l dC dI ad cy R 0 0 cqX9_isWithin fX9_isWithin :=
  ⟨okX9_isWithin, am_inU 381 (by decide +kernel) (by decide +kernel), Nat.le_refl _, Nat.le_refl _, h1, h2, ⟨by decide, by decide, by decide +kernel⟩, trivial, Or.inl ⟨_, _, rfl⟩⟩
abbrev rmX0_accepts : Room := { frames := 1, cells := 0, slots := 0, locals := 22 }
def cqX0_accepts : am_C := (yX0_accepts, .code yX0_accepts cX0_accepts 1 (some .boolean), rmX0_accepts, none, 1, 1)
theorem okX0_accepts {l : Launch} {dC : Nat → ClassId} {dI ad : Nat → Nat → Nat} {cy : Nat → ClassId} : am_Ok l dC dI ad cy yX0_accepts (.code yX0_accepts cX0_accepts 1 (some .boolean)) rmX0_accepts fX0_accepts :=
  am_meth_ok (ci := [cqX9_isWithin]) (by decide +kernel) rfl ⟨rfl, rfl⟩ (am_rows_of (by decide +kernel) (am_words_of [712, 713, 380, 56] (by decide +kernel) (by decide +kernel))) (am_cs_cons (calX9_isWithin (by decide) (by decide)) am_cs_nil) (am_cv_of (by decide +kernel))
theorem calX0_accepts {l : Launch} {dC : Nat → ClassId} {dI ad : Nat → Nat → Nat} {cy : Nat → ClassId} {R : Room} (h1 : rmX0_accepts.frames + 1 ≤ R.frames) (h2 : 8 + (1 + 11) + rmX0_accepts.locals ≤ R.locals) : am_Cal l dC dI ad cy R 0 0 cqX0_accepts fX0_accepts :=
  ⟨okX0_accepts, am_inU 711 (by decide +kernel) (by decide +kernel), Nat.le_refl _, Nat.le_refl _, h1, h2, ⟨by decide, by decide, by decide +kernel⟩, trivial, Or.inl ⟨_, _, rfl⟩⟩
abbrev rmX0_takes : Room := { frames := 0, cells := 0, slots := 0, locals := 0 }
def cqX0_takes : am_C := (yX0_takes, .code yX0_takes cX0_takes 2 (some .boolean), rmX0_takes, some 0, 1, 2)
theorem okX0_takes {l : Launch} {dC : Nat → ClassId} {dI ad : Nat → Nat → Nat} {cy : Nat → ClassId} : am_Ok l dC dI ad cy yX0_takes (.code yX0_takes cX0_takes 2 (some .boolean)) rmX0_takes fX0_takes :=
  am_meth_ok (ci := []) (by decide +kernel) rfl ⟨rfl, rfl⟩ (am_rows_of (by decide +kernel) (am_words_of [140, 140, 138, 140] (by decide +kernel) (by decide +kernel))) am_cs_nil (am_cv_of (by decide +kernel))
theorem calX0_takes {l : Launch} {dC : Nat → ClassId} {dI ad : Nat → Nat → Nat} {cy : Nat → ClassId} {R : Room} (h1 : rmX0_takes.frames + 1 ≤ R.frames) (h2 : 8 + (2 + 11) + rmX0_takes.locals ≤ R.locals) : am_Cal l dC dI ad cy R 0 0 cqX0_takes fX0_takes :=
  ⟨okX0_takes, am_inU 718 (by decide +kernel) (by decide +kernel), Nat.le_refl _, Nat.le_refl _, h1, h2, ⟨by decide, by decide, by decide +kernel⟩, ⟨by decide, rfl⟩, Or.inl ⟨_, _, rfl⟩⟩
abbrev rmX0_add : Room := { frames := 0, cells := 0, slots := 0, locals := 0 }
def cqX0_add : am_C := (yX0_add, .code yX0_add cX0_add 3 none, rmX0_add, some 0, 2, 3)
theorem okX0_add {l : Launch} {dC : Nat → ClassId} {dI ad : Nat → Nat → Nat} {cy : Nat → ClassId} : am_Ok l dC dI ad cy yX0_add (.code yX0_add cX0_add 3 none) rmX0_add fX0_add :=
  am_meth_ok (ci := []) (by decide +kernel) rfl ⟨rfl, rfl⟩ (am_rows_of (by decide +kernel) (am_words_of [140, 138, 140, 140, 140, 138, 140, 139, 140, 140, 140] (by decide +kernel) (by decide +kernel))) am_cs_nil (am_cv_of (by decide +kernel))
theorem calX0_add {l : Launch} {dC : Nat → ClassId} {dI ad : Nat → Nat → Nat} {cy : Nat → ClassId} {R : Room} (h1 : rmX0_add.frames + 1 ≤ R.frames) (h2 : 8 + (3 + 11) + rmX0_add.locals ≤ R.locals) : am_Cal l dC dI ad cy R 0 0 cqX0_add fX0_add :=
  ⟨okX0_add, am_inU 722 (by decide +kernel) (by decide +kernel), Nat.le_refl _, Nat.le_refl _, h1, h2, ⟨by decide, by decide, by decide +kernel⟩, ⟨by decide, rfl⟩, Or.inl ⟨_, _, rfl⟩⟩
abbrev rmX0_isMonotone : Room := { frames := 0, cells := 0, slots := 0, locals := 0 }
def cqX0_isMonotone : am_C := (yX0_isMonotone, .code yX0_isMonotone cX0_isMonotone 3 (some .boolean), rmX0_isMonotone, some 0, 1, 3)
theorem okX0_isMonotone {l : Launch} {dC : Nat → ClassId} {dI ad : Nat → Nat → Nat} {cy : Nat → ClassId} : am_Ok l dC dI ad cy yX0_isMonotone (.code yX0_isMonotone cX0_isMonotone 3 (some .boolean)) rmX0_isMonotone fX0_isMonotone :=
  am_meth_ok (ci := []) (by decide +kernel) rfl ⟨rfl, rfl⟩ (am_rows_of (by decide +kernel) (am_words_of [140, 139, 139] (by decide +kernel) (by decide +kernel))) am_cs_nil (am_cv_of (by decide +kernel))
theorem calX0_isMonotone {l : Launch} {dC : Nat → ClassId} {dI ad : Nat → Nat → Nat} {cy : Nat → ClassId} {R : Room} (h1 : rmX0_isMonotone.frames + 1 ≤ R.frames) (h2 : 8 + (3 + 11) + rmX0_isMonotone.locals ≤ R.locals) : am_Cal l dC dI ad cy R 0 0 cqX0_isMonotone fX0_isMonotone :=
  ⟨okX0_isMonotone, am_inU 760 (by decide +kernel) (by decide +kernel), Nat.le_refl _, Nat.le_refl _, h1, h2, ⟨by decide, by decide, by decide +kernel⟩, ⟨by decide, rfl⟩, Or.inl ⟨_, _, rfl⟩⟩
abbrev rmX0_isComplete : Room := { frames := 1, cells := 0, slots := 0, locals := 22 }
def cqX0_isComplete : am_C := (yX0_isComplete, .code yX0_isComplete cX0_isComplete 1 (some .boolean), rmX0_isComplete, some 0, 0, 1)
theorem okX0_isComplete {l : Launch} {dC : Nat → ClassId} {dI ad : Nat → Nat → Nat} {cy : Nat → ClassId} : am_Ok l dC dI ad cy yX0_isComplete (.code yX0_isComplete cX0_isComplete 1 (some .boolean)) rmX0_isComplete fX0_isComplete :=
  am_meth_ok (ci := [cqX0_isMonotone]) (by decide +kernel) rfl ⟨rfl, rfl⟩ (am_rows_of (by decide +kernel) (am_words_of [140, 757, 759, 24, 60, 757, 759, 24, 60] (by decide +kernel) (by decide +kernel))) (am_cs_cons (calX0_isMonotone (by decide) (by decide)) am_cs_nil) (am_cv_of (by decide +kernel))
theorem calX0_isComplete {l : Launch} {dC : Nat → ClassId} {dI ad : Nat → Nat → Nat} {cy : Nat → ClassId} {R : Room} (h1 : rmX0_isComplete.frames + 1 ≤ R.frames) (h2 : 8 + (1 + 11) + rmX0_isComplete.locals ≤ R.locals) : am_Cal l dC dI ad cy R 0 0 cqX0_isComplete fX0_isComplete :=
  ⟨okX0_isComplete, am_inU 756 (by decide +kernel) (by decide +kernel), Nat.le_refl _, Nat.le_refl _, h1, h2, ⟨by decide, by decide, by decide +kernel⟩, ⟨by decide, rfl⟩, Or.inl ⟨_, _, rfl⟩⟩
abbrev rmJ9_floorDiv_f86c9 : Room := { frames := 0, cells := 0, slots := 0, locals := 0 }
def cqJ9_floorDiv_f86c9 : am_C := (yJ9_floorDiv_f86c9, .code yJ9_floorDiv_f86c9 cJ9_floorDiv_f86c9 6 (some .long), rmJ9_floorDiv_f86c9, none, 2, 6)
theorem okJ9_floorDiv_f86c9 {l : Launch} {dC : Nat → ClassId} {dI ad : Nat → Nat → Nat} {cy : Nat → ClassId} : am_Ok l dC dI ad cy yJ9_floorDiv_f86c9 (.code yJ9_floorDiv_f86c9 cJ9_floorDiv_f86c9 6 (some .long)) rmJ9_floorDiv_f86c9 fJ9_floorDiv_f86c9 :=
  am_meth_ok (ci := []) (by decide +kernel) rfl ⟨rfl, rfl⟩ (am_rows_of (by decide +kernel) (am_words_of [] (by decide +kernel) (by decide +kernel))) am_cs_nil (am_cv_of (by decide +kernel))
theorem calJ9_floorDiv_f86c9 {l : Launch} {dC : Nat → ClassId} {dI ad : Nat → Nat → Nat} {cy : Nat → ClassId} {R : Room} (h1 : rmJ9_floorDiv_f86c9.frames + 1 ≤ R.frames) (h2 : 8 + (6 + 11) + rmJ9_floorDiv_f86c9.locals ≤ R.locals) : am_Cal l dC dI ad cy R 0 0 cqJ9_floorDiv_f86c9 fJ9_floorDiv_f86c9 :=
  ⟨okJ9_floorDiv_f86c9, am_inU 458 (by decide +kernel) (by decide +kernel), Nat.le_refl _, Nat.le_refl _, h1, h2, ⟨by decide, by decide, by decide +kernel⟩, trivial, Or.inl ⟨_, _, rfl⟩⟩
abbrev rmX9_rounded : Room := { frames := 1, cells := 0, slots := 0, locals := 25 }
def cqX9_rounded : am_C := (yX9_rounded, .code yX9_rounded cX9_rounded 4 (some .long), rmX9_rounded, none, 2, 4)
theorem okX9_rounded {l : Launch} {dC : Nat → ClassId} {dI ad : Nat → Nat → Nat} {cy : Nat → ClassId} : am_Ok l dC dI ad cy yX9_rounded (.code yX9_rounded cX9_rounded 4 (some .long)) rmX9_rounded fX9_rounded :=
  am_meth_ok (ci := [cqJ9_floorDiv_f86c9]) (by decide +kernel) rfl ⟨rfl, rfl⟩ (am_rows_of (by decide +kernel) (am_words_of [419, 419, 457, 73, 456] (by decide +kernel) (by decide +kernel))) (am_cs_cons (calJ9_floorDiv_f86c9 (by decide) (by decide)) am_cs_nil) (am_cv_of (by decide +kernel))
theorem calX9_rounded {l : Launch} {dC : Nat → ClassId} {dI ad : Nat → Nat → Nat} {cy : Nat → ClassId} {R : Room} (h1 : rmX9_rounded.frames + 1 ≤ R.frames) (h2 : 8 + (4 + 11) + rmX9_rounded.locals ≤ R.locals) : am_Cal l dC dI ad cy R 0 0 cqX9_rounded fX9_rounded :=
  ⟨okX9_rounded, am_inU 455 (by decide +kernel) (by decide +kernel), Nat.le_refl _, Nat.le_refl _, h1, h2, ⟨by decide, by decide, by decide +kernel⟩, trivial, Or.inl ⟨_, _, rfl⟩⟩
abbrev rmX0_valueAt : Room := { frames := 2, cells := 0, slots := 0, locals := 48 }
def cqX0_valueAt : am_C := (yX0_valueAt, .code yX0_valueAt cX0_valueAt 7 (some .long), rmX0_valueAt, some 0, 1, 7)
theorem okX0_valueAt {l : Launch} {dC : Nat → ClassId} {dI ad : Nat → Nat → Nat} {cy : Nat → ClassId} : am_Ok l dC dI ad cy yX0_valueAt (.code yX0_valueAt cX0_valueAt 7 (some .long)) rmX0_valueAt fX0_valueAt :=
  am_meth_ok (ci := [cqX9_rounded]) (by decide +kernel) rfl ⟨rfl, rfl⟩ (am_rows_of (by decide +kernel) (am_words_of [140, 140, 138, 138, 139, 139, 139, 138, 138, 454, 56] (by decide +kernel) (by decide +kernel))) (am_cs_cons (calX9_rounded (by decide) (by decide)) am_cs_nil) (am_cv_of (by decide +kernel))
theorem calX0_valueAt {l : Launch} {dC : Nat → ClassId} {dI ad : Nat → Nat → Nat} {cy : Nat → ClassId} {R : Room} (h1 : rmX0_valueAt.frames + 1 ≤ R.frames) (h2 : 8 + (7 + 11) + rmX0_valueAt.locals ≤ R.locals) : am_Cal l dC dI ad cy R 0 0 cqX0_valueAt fX0_valueAt :=
  ⟨okX0_valueAt, am_inU 466 (by decide +kernel) (by decide +kernel), Nat.le_refl _, Nat.le_refl _, h1, h2, ⟨by decide, by decide, by decide +kernel⟩, ⟨by decide, rfl⟩, Or.inl ⟨_, _, rfl⟩⟩
abbrev rmX1_isClean : Room := { frames := 0, cells := 0, slots := 0, locals := 0 }
def cqX1_isClean : am_C := (yX1_isClean, .code yX1_isClean cX1_isClean 1 (some .boolean), rmX1_isClean, some 1, 0, 1)
theorem okX1_isClean {l : Launch} {dC : Nat → ClassId} {dI ad : Nat → Nat → Nat} {cy : Nat → ClassId} : am_Ok l dC dI ad cy yX1_isClean (.code yX1_isClean cX1_isClean 1 (some .boolean)) rmX1_isClean fX1_isClean :=
  am_meth_ok (ci := []) (by decide +kernel) rfl ⟨rfl, rfl⟩ (am_rows_of (by decide +kernel) (am_words_of [234, 240] (by decide +kernel) (by decide +kernel))) am_cs_nil (am_cv_of (by decide +kernel))
theorem calX1_isClean {l : Launch} {dC : Nat → ClassId} {dI ad : Nat → Nat → Nat} {cy : Nat → ClassId} {R : Room} (h1 : rmX1_isClean.frames + 1 ≤ R.frames) (h2 : 8 + (1 + 11) + rmX1_isClean.locals ≤ R.locals) : am_Cal l dC dI ad cy R 0 0 cqX1_isClean fX1_isClean :=
  ⟨okX1_isClean, am_inU 553 (by decide +kernel) (by decide +kernel), Nat.le_refl _, Nat.le_refl _, h1, h2, ⟨by decide, by decide, by decide +kernel⟩, ⟨by decide, rfl⟩, Or.inl ⟨_, _, rfl⟩⟩
abbrev rmX1_turn : Room := { frames := 0, cells := 0, slots := 0, locals := 0 }
def cqX1_turn : am_C := (yX1_turn, .code yX1_turn cX1_turn 1 none, rmX1_turn, some 1, 0, 1)
theorem okX1_turn {l : Launch} {dC : Nat → ClassId} {dI ad : Nat → Nat → Nat} {cy : Nat → ClassId} : am_Ok l dC dI ad cy yX1_turn (.code yX1_turn cX1_turn 1 none) rmX1_turn fX1_turn :=
  am_meth_ok (ci := []) (by decide +kernel) rfl ⟨rfl, rfl⟩ (am_rows_of (by decide +kernel) (am_words_of [234, 238, 238, 240, 240, 240] (by decide +kernel) (by decide +kernel))) am_cs_nil (am_cv_of (by decide +kernel))
theorem calX1_turn {l : Launch} {dC : Nat → ClassId} {dI ad : Nat → Nat → Nat} {cy : Nat → ClassId} {R : Room} (h1 : rmX1_turn.frames + 1 ≤ R.frames) (h2 : 8 + (1 + 11) + rmX1_turn.locals ≤ R.locals) : am_Cal l dC dI ad cy R 0 0 cqX1_turn fX1_turn :=
  ⟨okX1_turn, am_inU 362 (by decide +kernel) (by decide +kernel), Nat.le_refl _, Nat.le_refl _, h1, h2, ⟨by decide, by decide, by decide +kernel⟩, ⟨by decide, rfl⟩, Or.inl ⟨_, _, rfl⟩⟩
abbrev rmX1_start : Room := { frames := 0, cells := 0, slots := 0, locals := 0 }
def cqX1_start : am_C := (yX1_start, .code yX1_start cX1_start 3 none, rmX1_start, some 1, 2, 3)
theorem okX1_start {l : Launch} {dC : Nat → ClassId} {dI ad : Nat → Nat → Nat} {cy : Nat → ClassId} : am_Ok l dC dI ad cy yX1_start (.code yX1_start cX1_start 3 none) rmX1_start fX1_start :=
  am_meth_ok (ci := []) (by decide +kernel) rfl ⟨rfl, rfl⟩ (am_rows_of (by decide +kernel) (am_words_of [234, 236, 238, 226, 232] (by decide +kernel) (by decide +kernel))) am_cs_nil (am_cv_of (by decide +kernel))
theorem calX1_start {l : Launch} {dC : Nat → ClassId} {dI ad : Nat → Nat → Nat} {cy : Nat → ClassId} {R : Room} (h1 : rmX1_start.frames + 1 ≤ R.frames) (h2 : 8 + (3 + 11) + rmX1_start.locals ≤ R.locals) : am_Cal l dC dI ad cy R 0 0 cqX1_start fX1_start :=
  ⟨okX1_start, am_inU 576 (by decide +kernel) (by decide +kernel), Nat.le_refl _, Nat.le_refl _, h1, h2, ⟨by decide, by decide, by decide +kernel⟩, ⟨by decide, rfl⟩, Or.inl ⟨_, _, rfl⟩⟩
abbrev rmX1_addReading : Room := { frames := 0, cells := 0, slots := 0, locals := 0 }
def cqX1_addReading : am_C := (yX1_addReading, .code yX1_addReading cX1_addReading 2 none, rmX1_addReading, some 1, 1, 2)
theorem okX1_addReading {l : Launch} {dC : Nat → ClassId} {dI ad : Nat → Nat → Nat} {cy : Nat → ClassId} : am_Ok l dC dI ad cy yX1_addReading (.code yX1_addReading cX1_addReading 2 none) rmX1_addReading fX1_addReading :=
  am_meth_ok (ci := []) (by decide +kernel) rfl ⟨rfl, rfl⟩ (am_rows_of (by decide +kernel) (am_words_of [226, 224, 226, 226, 226] (by decide +kernel) (by decide +kernel))) am_cs_nil (am_cv_of (by decide +kernel))
theorem calX1_addReading {l : Launch} {dC : Nat → ClassId} {dI ad : Nat → Nat → Nat} {cy : Nat → ClassId} {R : Room} (h1 : rmX1_addReading.frames + 1 ≤ R.frames) (h2 : 8 + (2 + 11) + rmX1_addReading.locals ≤ R.locals) : am_Cal l dC dI ad cy R 0 0 cqX1_addReading fX1_addReading :=
  ⟨okX1_addReading, am_inU 432 (by decide +kernel) (by decide +kernel), Nat.le_refl _, Nat.le_refl _, h1, h2, ⟨by decide, by decide, by decide +kernel⟩, ⟨by decide, rfl⟩, Or.inl ⟨_, _, rfl⟩⟩
abbrev rmX1_sendToWash : Room := { frames := 0, cells := 0, slots := 0, locals := 0 }
def cqX1_sendToWash : am_C := (yX1_sendToWash, .code yX1_sendToWash cX1_sendToWash 1 none, rmX1_sendToWash, some 1, 0, 1)
theorem okX1_sendToWash {l : Launch} {dC : Nat → ClassId} {dI ad : Nat → Nat → Nat} {cy : Nat → ClassId} : am_Ok l dC dI ad cy yX1_sendToWash (.code yX1_sendToWash cX1_sendToWash 1 none) rmX1_sendToWash fX1_sendToWash :=
  am_meth_ok (ci := []) (by decide +kernel) rfl ⟨rfl, rfl⟩ (am_rows_of (by decide +kernel) (am_words_of [234, 242, 240] (by decide +kernel) (by decide +kernel))) am_cs_nil (am_cv_of (by decide +kernel))
theorem calX1_sendToWash {l : Launch} {dC : Nat → ClassId} {dI ad : Nat → Nat → Nat} {cy : Nat → ClassId} {R : Room} (h1 : rmX1_sendToWash.frames + 1 ≤ R.frames) (h2 : 8 + (1 + 11) + rmX1_sendToWash.locals ≤ R.locals) : am_Cal l dC dI ad cy R 0 0 cqX1_sendToWash fX1_sendToWash :=
  ⟨okX1_sendToWash, am_inU 405 (by decide +kernel) (by decide +kernel), Nat.le_refl _, Nat.le_refl _, h1, h2, ⟨by decide, by decide, by decide +kernel⟩, ⟨by decide, rfl⟩, Or.inl ⟨_, _, rfl⟩⟩
abbrev rmX2_append : Room := { frames := 0, cells := 0, slots := 0, locals := 0 }
def cqX2_append : am_C := (yX2_append, .code yX2_append cX2_append 3 none, rmX2_append, some 2, 1, 3)
theorem okX2_append {l : Launch} {dC : Nat → ClassId} {dI ad : Nat → Nat → Nat} {cy : Nat → ClassId} : am_Ok l dC dI ad cy yX2_append (.code yX2_append cX2_append 3 none) rmX2_append fX2_append :=
  am_meth_ok (ci := []) (by decide +kernel) rfl ⟨rfl, rfl⟩ (am_rows_of (by decide +kernel) (am_words_of [156, 155, 155, 156, 156, 155, 156, 156, 156] (by decide +kernel) (by decide +kernel))) am_cs_nil (am_cv_of (by decide +kernel))
theorem calX2_append {l : Launch} {dC : Nat → ClassId} {dI ad : Nat → Nat → Nat} {cy : Nat → ClassId} {R : Room} (h1 : rmX2_append.frames + 1 ≤ R.frames) (h2 : 8 + (3 + 11) + rmX2_append.locals ≤ R.locals) : am_Cal l dC dI ad cy R 0 0 cqX2_append fX2_append :=
  ⟨okX2_append, am_inU 507 (by decide +kernel) (by decide +kernel), Nat.le_refl _, Nat.le_refl _, h1, h2, ⟨by decide, by decide, by decide +kernel⟩, ⟨by decide, rfl⟩, Or.inl ⟨_, _, rfl⟩⟩
abbrev rmX2_fromLatest : Room := { frames := 1, cells := 0, slots := 0, locals := 22 }
def cqX2_fromLatest : am_C := (yX2_fromLatest, .code yX2_fromLatest cX2_fromLatest 2 (some .int), rmX2_fromLatest, some 2, 1, 2)
theorem okX2_fromLatest {l : Launch} {dC : Nat → ClassId} {dI ad : Nat → Nat → Nat} {cy : Nat → ClassId} : am_Ok l dC dI ad cy yX2_fromLatest (.code yX2_fromLatest cX2_fromLatest 2 (some .int)) rmX2_fromLatest fX2_fromLatest :=
  am_meth_ok (ci := [cqX9_isWithin]) (by decide +kernel) rfl ⟨rfl, rfl⟩ (am_rows_of (by decide +kernel) (am_words_of [156, 380, 56, 155, 156] (by decide +kernel) (by decide +kernel))) (am_cs_cons (calX9_isWithin (by decide) (by decide)) am_cs_nil) (am_cv_of (by decide +kernel))
theorem calX2_fromLatest {l : Launch} {dC : Nat → ClassId} {dI ad : Nat → Nat → Nat} {cy : Nat → ClassId} {R : Room} (h1 : rmX2_fromLatest.frames + 1 ≤ R.frames) (h2 : 8 + (2 + 11) + rmX2_fromLatest.locals ≤ R.locals) : am_Cal l dC dI ad cy R 0 0 cqX2_fromLatest fX2_fromLatest :=
  ⟨okX2_fromLatest, am_inU 916 (by decide +kernel) (by decide +kernel), Nat.le_refl _, Nat.le_refl _, h1, h2, ⟨by decide, by decide, by decide +kernel⟩, ⟨by decide, rfl⟩, Or.inl ⟨_, _, rfl⟩⟩
abbrev rmX2_above : Room := { frames := 2, cells := 0, slots := 0, locals := 43 }
def cqX2_above : am_C := (yX2_above, .code yX2_above cX2_above 6 (some .int), rmX2_above, some 2, 2, 6)
theorem okX2_above {l : Launch} {dC : Nat → ClassId} {dI ad : Nat → Nat → Nat} {cy : Nat → ClassId} : am_Ok l dC dI ad cy yX2_above (.code yX2_above cX2_above 6 (some .int)) rmX2_above fX2_above :=
  am_meth_ok (ci := [cqX2_fromLatest]) (by decide +kernel) rfl ⟨rfl, rfl⟩ (am_rows_of (by decide +kernel) (am_words_of [156, 934, 914, 915, 61] (by decide +kernel) (by decide +kernel))) (am_cs_cons (calX2_fromLatest (by decide) (by decide)) am_cs_nil) (am_cv_of (by decide +kernel))
theorem calX2_above {l : Launch} {dC : Nat → ClassId} {dI ad : Nat → Nat → Nat} {cy : Nat → ClassId} {R : Room} (h1 : rmX2_above.frames + 1 ≤ R.frames) (h2 : 8 + (6 + 11) + rmX2_above.locals ≤ R.locals) : am_Cal l dC dI ad cy R 0 0 cqX2_above fX2_above :=
  ⟨okX2_above, am_inU 933 (by decide +kernel) (by decide +kernel), Nat.le_refl _, Nat.le_refl _, h1, h2, ⟨by decide, by decide, by decide +kernel⟩, ⟨by decide, rfl⟩, Or.inl ⟨_, _, rfl⟩⟩
abbrev rmX2_below : Room := { frames := 2, cells := 0, slots := 0, locals := 43 }
def cqX2_below : am_C := (yX2_below, .code yX2_below cX2_below 6 (some .int), rmX2_below, some 2, 2, 6)
theorem okX2_below {l : Launch} {dC : Nat → ClassId} {dI ad : Nat → Nat → Nat} {cy : Nat → ClassId} : am_Ok l dC dI ad cy yX2_below (.code yX2_below cX2_below 6 (some .int)) rmX2_below fX2_below :=
  am_meth_ok (ci := [cqX2_fromLatest]) (by decide +kernel) rfl ⟨rfl, rfl⟩ (am_rows_of (by decide +kernel) (am_words_of [156, 934, 914, 915, 61] (by decide +kernel) (by decide +kernel))) (am_cs_cons (calX2_fromLatest (by decide) (by decide)) am_cs_nil) (am_cv_of (by decide +kernel))
theorem calX2_below {l : Launch} {dC : Nat → ClassId} {dI ad : Nat → Nat → Nat} {cy : Nat → ClassId} {R : Room} (h1 : rmX2_below.frames + 1 ≤ R.frames) (h2 : 8 + (6 + 11) + rmX2_below.locals ≤ R.locals) : am_Cal l dC dI ad cy R 0 0 cqX2_below fX2_below :=
  ⟨okX2_below, am_inU 938 (by decide +kernel) (by decide +kernel), Nat.le_refl _, Nat.le_refl _, h1, h2, ⟨by decide, by decide, by decide +kernel⟩, ⟨by decide, rfl⟩, Or.inl ⟨_, _, rfl⟩⟩
abbrev rmX3_append : Room := { frames := 0, cells := 0, slots := 0, locals := 0 }
def cqX3_append : am_C := (yX3_append, .code yX3_append cX3_append 2 none, rmX3_append, some 3, 1, 2)
theorem okX3_append {l : Launch} {dC : Nat → ClassId} {dI ad : Nat → Nat → Nat} {cy : Nat → ClassId} : am_Ok l dC dI ad cy yX3_append (.code yX3_append cX3_append 2 none) rmX3_append fX3_append :=
  am_meth_ok (ci := []) (by decide +kernel) rfl ⟨rfl, rfl⟩ (am_rows_of (by decide +kernel) (am_words_of [119, 117, 119, 119, 119] (by decide +kernel) (by decide +kernel))) am_cs_nil (am_cv_of (by decide +kernel))
theorem calX3_append {l : Launch} {dC : Nat → ClassId} {dI ad : Nat → Nat → Nat} {cy : Nat → ClassId} {R : Room} (h1 : rmX3_append.frames + 1 ≤ R.frames) (h2 : 8 + (2 + 11) + rmX3_append.locals ≤ R.locals) : am_Cal l dC dI ad cy R 0 0 cqX3_append fX3_append :=
  ⟨okX3_append, am_inU 503 (by decide +kernel) (by decide +kernel), Nat.le_refl _, Nat.le_refl _, h1, h2, ⟨by decide, by decide, by decide +kernel⟩, ⟨by decide, rfl⟩, Or.inl ⟨_, _, rfl⟩⟩
abbrev rmX3_dropFirst : Room := { frames := 0, cells := 0, slots := 0, locals := 0 }
def cqX3_dropFirst : am_C := (yX3_dropFirst, .code yX3_dropFirst cX3_dropFirst 3 none, rmX3_dropFirst, some 3, 1, 3)
theorem okX3_dropFirst {l : Launch} {dC : Nat → ClassId} {dI ad : Nat → Nat → Nat} {cy : Nat → ClassId} : am_Ok l dC dI ad cy yX3_dropFirst (.code yX3_dropFirst cX3_dropFirst 3 none) rmX3_dropFirst fX3_dropFirst :=
  am_meth_ok (ci := []) (by decide +kernel) rfl ⟨rfl, rfl⟩ (am_rows_of (by decide +kernel) (am_words_of [119, 117, 117, 119, 119] (by decide +kernel) (by decide +kernel))) am_cs_nil (am_cv_of (by decide +kernel))
theorem calX3_dropFirst {l : Launch} {dC : Nat → ClassId} {dI ad : Nat → Nat → Nat} {cy : Nat → ClassId} {R : Room} (h1 : rmX3_dropFirst.frames + 1 ≤ R.frames) (h2 : 8 + (3 + 11) + rmX3_dropFirst.locals ≤ R.locals) : am_Cal l dC dI ad cy R 0 0 cqX3_dropFirst fX3_dropFirst :=
  ⟨okX3_dropFirst, am_inU 957 (by decide +kernel) (by decide +kernel), Nat.le_refl _, Nat.le_refl _, h1, h2, ⟨by decide, by decide, by decide +kernel⟩, ⟨by decide, rfl⟩, Or.inl ⟨_, _, rfl⟩⟩
abbrev rmX4_place : Room := { frames := 0, cells := 0, slots := 0, locals := 0 }
def cqX4_place : am_C := (yX4_place, .code yX4_place cX4_place 4 none, rmX4_place, some 4, 3, 4)
theorem okX4_place {l : Launch} {dC : Nat → ClassId} {dI ad : Nat → Nat → Nat} {cy : Nat → ClassId} : am_Ok l dC dI ad cy yX4_place (.code yX4_place cX4_place 4 none) rmX4_place fX4_place :=
  am_meth_ok (ci := []) (by decide +kernel) rfl ⟨rfl, rfl⟩ (am_rows_of (by decide +kernel) (am_words_of [270, 272, 274] (by decide +kernel) (by decide +kernel))) am_cs_nil (am_cv_of (by decide +kernel))
theorem calX4_place {l : Launch} {dC : Nat → ClassId} {dI ad : Nat → Nat → Nat} {cy : Nat → ClassId} {R : Room} (h1 : rmX4_place.frames + 1 ≤ R.frames) (h2 : 8 + (4 + 11) + rmX4_place.locals ≤ R.locals) : am_Cal l dC dI ad cy R 0 0 cqX4_place fX4_place :=
  ⟨okX4_place, am_inU 840 (by decide +kernel) (by decide +kernel), Nat.le_refl _, Nat.le_refl _, h1, h2, ⟨by decide, by decide, by decide +kernel⟩, ⟨by decide, rfl⟩, Or.inl ⟨_, _, rfl⟩⟩
abbrev rmX4_isOpen : Room := { frames := 0, cells := 0, slots := 0, locals := 0 }
def cqX4_isOpen : am_C := (yX4_isOpen, .code yX4_isOpen cX4_isOpen 1 (some .boolean), rmX4_isOpen, some 4, 0, 1)
theorem okX4_isOpen {l : Launch} {dC : Nat → ClassId} {dI ad : Nat → Nat → Nat} {cy : Nat → ClassId} : am_Ok l dC dI ad cy yX4_isOpen (.code yX4_isOpen cX4_isOpen 1 (some .boolean)) rmX4_isOpen fX4_isOpen :=
  am_meth_ok (ci := []) (by decide +kernel) rfl ⟨rfl, rfl⟩ (am_rows_of (by decide +kernel) (am_words_of [276, 276] (by decide +kernel) (by decide +kernel))) am_cs_nil (am_cv_of (by decide +kernel))
theorem calX4_isOpen {l : Launch} {dC : Nat → ClassId} {dI ad : Nat → Nat → Nat} {cy : Nat → ClassId} {R : Room} (h1 : rmX4_isOpen.frames + 1 ≤ R.frames) (h2 : 8 + (1 + 11) + rmX4_isOpen.locals ≤ R.locals) : am_Cal l dC dI ad cy R 0 0 cqX4_isOpen fX4_isOpen :=
  ⟨okX4_isOpen, am_inU 683 (by decide +kernel) (by decide +kernel), Nat.le_refl _, Nat.le_refl _, h1, h2, ⟨by decide, by decide, by decide +kernel⟩, ⟨by decide, rfl⟩, Or.inl ⟨_, _, rfl⟩⟩
abbrev rmX4_startRun : Room := { frames := 0, cells := 0, slots := 0, locals := 0 }
def cqX4_startRun : am_C := (yX4_startRun, .code yX4_startRun cX4_startRun 2 none, rmX4_startRun, some 4, 1, 2)
theorem okX4_startRun {l : Launch} {dC : Nat → ClassId} {dI ad : Nat → Nat → Nat} {cy : Nat → ClassId} : am_Ok l dC dI ad cy yX4_startRun (.code yX4_startRun cX4_startRun 2 none) rmX4_startRun fX4_startRun :=
  am_meth_ok (ci := []) (by decide +kernel) rfl ⟨rfl, rfl⟩ (am_rows_of (by decide +kernel) (am_words_of [276, 280, 280, 284] (by decide +kernel) (by decide +kernel))) am_cs_nil (am_cv_of (by decide +kernel))
theorem calX4_startRun {l : Launch} {dC : Nat → ClassId} {dI ad : Nat → Nat → Nat} {cy : Nat → ClassId} {R : Room} (h1 : rmX4_startRun.frames + 1 ≤ R.frames) (h2 : 8 + (2 + 11) + rmX4_startRun.locals ≤ R.locals) : am_Cal l dC dI ad cy R 0 0 cqX4_startRun fX4_startRun :=
  ⟨okX4_startRun, am_inU 584 (by decide +kernel) (by decide +kernel), Nat.le_refl _, Nat.le_refl _, h1, h2, ⟨by decide, by decide, by decide +kernel⟩, ⟨by decide, rfl⟩, Or.inl ⟨_, _, rfl⟩⟩
abbrev rmX4_waitAgain : Room := { frames := 0, cells := 0, slots := 0, locals := 0 }
def cqX4_waitAgain : am_C := (yX4_waitAgain, .code yX4_waitAgain cX4_waitAgain 2 none, rmX4_waitAgain, some 4, 1, 2)
theorem okX4_waitAgain {l : Launch} {dC : Nat → ClassId} {dI ad : Nat → Nat → Nat} {cy : Nat → ClassId} : am_Ok l dC dI ad cy yX4_waitAgain (.code yX4_waitAgain cX4_waitAgain 2 none) rmX4_waitAgain fX4_waitAgain :=
  am_meth_ok (ci := []) (by decide +kernel) rfl ⟨rfl, rfl⟩ (am_rows_of (by decide +kernel) (am_words_of [276, 284, 282] (by decide +kernel) (by decide +kernel))) am_cs_nil (am_cv_of (by decide +kernel))
theorem calX4_waitAgain {l : Launch} {dC : Nat → ClassId} {dI ad : Nat → Nat → Nat} {cy : Nat → ClassId} {R : Room} (h1 : rmX4_waitAgain.frames + 1 ≤ R.frames) (h2 : 8 + (2 + 11) + rmX4_waitAgain.locals ≤ R.locals) : am_Cal l dC dI ad cy R 0 0 cqX4_waitAgain fX4_waitAgain :=
  ⟨okX4_waitAgain, am_inU 397 (by decide +kernel) (by decide +kernel), Nat.le_refl _, Nat.le_refl _, h1, h2, ⟨by decide, by decide, by decide +kernel⟩, ⟨by decide, rfl⟩, Or.inl ⟨_, _, rfl⟩⟩
abbrev rmX4_fail : Room := { frames := 0, cells := 0, slots := 0, locals := 0 }
def cqX4_fail : am_C := (yX4_fail, .code yX4_fail cX4_fail 2 none, rmX4_fail, some 4, 1, 2)
theorem okX4_fail {l : Launch} {dC : Nat → ClassId} {dI ad : Nat → Nat → Nat} {cy : Nat → ClassId} : am_Ok l dC dI ad cy yX4_fail (.code yX4_fail cX4_fail 2 none) rmX4_fail fX4_fail :=
  am_meth_ok (ci := []) (by decide +kernel) rfl ⟨rfl, rfl⟩ (am_rows_of (by decide +kernel) (am_words_of [276, 278, 284] (by decide +kernel) (by decide +kernel))) am_cs_nil (am_cv_of (by decide +kernel))
theorem calX4_fail {l : Launch} {dC : Nat → ClassId} {dI ad : Nat → Nat → Nat} {cy : Nat → ClassId} {R : Room} (h1 : rmX4_fail.frames + 1 ≤ R.frames) (h2 : 8 + (2 + 11) + rmX4_fail.locals ≤ R.locals) : am_Cal l dC dI ad cy R 0 0 cqX4_fail fX4_fail :=
  ⟨okX4_fail, am_inU 401 (by decide +kernel) (by decide +kernel), Nat.le_refl _, Nat.le_refl _, h1, h2, ⟨by decide, by decide, by decide +kernel⟩, ⟨by decide, rfl⟩, Or.inl ⟨_, _, rfl⟩⟩
abbrev rmX4_breakOff : Room := { frames := 1, cells := 0, slots := 0, locals := 21 }
def cqX4_breakOff : am_C := (yX4_breakOff, .code yX4_breakOff cX4_breakOff 2 none, rmX4_breakOff, some 4, 1, 2)
theorem okX4_breakOff {l : Launch} {dC : Nat → ClassId} {dI ad : Nat → Nat → Nat} {cy : Nat → ClassId} : am_Ok l dC dI ad cy yX4_breakOff (.code yX4_breakOff cX4_breakOff 2 none) rmX4_breakOff fX4_breakOff :=
  am_meth_ok (ci := [cqX4_waitAgain, cqX4_fail]) (by decide +kernel) rfl ⟨rfl, rfl⟩ (am_rows_of (by decide +kernel) (am_words_of [280, 394, 395, 396, 65, 398, 399, 400, 65] (by decide +kernel) (by decide +kernel))) (am_cs_cons (calX4_waitAgain (by decide) (by decide)) (am_cs_cons (calX4_fail (by decide) (by decide)) am_cs_nil)) (am_cv_of (by decide +kernel))
theorem calX4_breakOff {l : Launch} {dC : Nat → ClassId} {dI ad : Nat → Nat → Nat} {cy : Nat → ClassId} {R : Room} (h1 : rmX4_breakOff.frames + 1 ≤ R.frames) (h2 : 8 + (2 + 11) + rmX4_breakOff.locals ≤ R.locals) : am_Cal l dC dI ad cy R 0 0 cqX4_breakOff fX4_breakOff :=
  ⟨okX4_breakOff, am_inU 393 (by decide +kernel) (by decide +kernel), Nat.le_refl _, Nat.le_refl _, h1, h2, ⟨by decide, by decide, by decide +kernel⟩, ⟨by decide, rfl⟩, Or.inl ⟨_, _, rfl⟩⟩
abbrev rmX4_release : Room := { frames := 0, cells := 0, slots := 0, locals := 0 }
def cqX4_release : am_C := (yX4_release, .code yX4_release cX4_release 3 none, rmX4_release, some 4, 2, 3)
theorem okX4_release {l : Launch} {dC : Nat → ClassId} {dI ad : Nat → Nat → Nat} {cy : Nat → ClassId} : am_Ok l dC dI ad cy yX4_release (.code yX4_release cX4_release 3 none) rmX4_release fX4_release :=
  am_meth_ok (ci := []) (by decide +kernel) rfl ⟨rfl, rfl⟩ (am_rows_of (by decide +kernel) (am_words_of [276, 284, 286, 288] (by decide +kernel) (by decide +kernel))) am_cs_nil (am_cv_of (by decide +kernel))
theorem calX4_release {l : Launch} {dC : Nat → ClassId} {dI ad : Nat → Nat → Nat} {cy : Nat → ClassId} {R : Room} (h1 : rmX4_release.frames + 1 ≤ R.frames) (h2 : 8 + (3 + 11) + rmX4_release.locals ≤ R.locals) : am_Cal l dC dI ad cy R 0 0 cqX4_release fX4_release :=
  ⟨okX4_release, am_inU 499 (by decide +kernel) (by decide +kernel), Nat.le_refl _, Nat.le_refl _, h1, h2, ⟨by decide, by decide, by decide +kernel⟩, ⟨by decide, rfl⟩, Or.inl ⟨_, _, rfl⟩⟩
abbrev rmX4_runFlags : Room := { frames := 0, cells := 0, slots := 0, locals := 0 }
def cqX4_runFlags : am_C := (yX4_runFlags, .code yX4_runFlags cX4_runFlags 1 (some .int), rmX4_runFlags, some 4, 0, 1)
theorem okX4_runFlags {l : Launch} {dC : Nat → ClassId} {dI ad : Nat → Nat → Nat} {cy : Nat → ClassId} : am_Ok l dC dI ad cy yX4_runFlags (.code yX4_runFlags cX4_runFlags 1 (some .int)) rmX4_runFlags fX4_runFlags :=
  am_meth_ok (ci := []) (by decide +kernel) rfl ⟨rfl, rfl⟩ (am_rows_of (by decide +kernel) (am_words_of [280, 282] (by decide +kernel) (by decide +kernel))) am_cs_nil (am_cv_of (by decide +kernel))
theorem calX4_runFlags {l : Launch} {dC : Nat → ClassId} {dI ad : Nat → Nat → Nat} {cy : Nat → ClassId} {R : Room} (h1 : rmX4_runFlags.frames + 1 ≤ R.frames) (h2 : 8 + (1 + 11) + rmX4_runFlags.locals ≤ R.locals) : am_Cal l dC dI ad cy R 0 0 cqX4_runFlags fX4_runFlags :=
  ⟨okX4_runFlags, am_inU 486 (by decide +kernel) (by decide +kernel), Nat.le_refl _, Nat.le_refl _, h1, h2, ⟨by decide, by decide, by decide +kernel⟩, ⟨by decide, rfl⟩, Or.inl ⟨_, _, rfl⟩⟩
abbrev rmX5_isEmpty : Room := { frames := 0, cells := 0, slots := 0, locals := 0 }
def cqX5_isEmpty : am_C := (yX5_isEmpty, .code yX5_isEmpty cX5_isEmpty 1 (some .boolean), rmX5_isEmpty, some 5, 0, 1)
theorem okX5_isEmpty {l : Launch} {dC : Nat → ClassId} {dI ad : Nat → Nat → Nat} {cy : Nat → ClassId} : am_Ok l dC dI ad cy yX5_isEmpty (.code yX5_isEmpty cX5_isEmpty 1 (some .boolean)) rmX5_isEmpty fX5_isEmpty :=
  am_meth_ok (ci := []) (by decide +kernel) rfl ⟨rfl, rfl⟩ (am_rows_of (by decide +kernel) (am_words_of [203] (by decide +kernel) (by decide +kernel))) am_cs_nil (am_cv_of (by decide +kernel))
theorem calX5_isEmpty {l : Launch} {dC : Nat → ClassId} {dI ad : Nat → Nat → Nat} {cy : Nat → ClassId} {R : Room} (h1 : rmX5_isEmpty.frames + 1 ≤ R.frames) (h2 : 8 + (1 + 11) + rmX5_isEmpty.locals ≤ R.locals) : am_Cal l dC dI ad cy R 0 0 cqX5_isEmpty fX5_isEmpty :=
  ⟨okX5_isEmpty, am_inU 886 (by decide +kernel) (by decide +kernel), Nat.le_refl _, Nat.le_refl _, h1, h2, ⟨by decide, by decide, by decide +kernel⟩, ⟨by decide, rfl⟩, Or.inl ⟨_, _, rfl⟩⟩
abbrev rmX5_fill : Room := { frames := 0, cells := 0, slots := 0, locals := 0 }
def cqX5_fill : am_C := (yX5_fill, .code yX5_fill cX5_fill 4 none, rmX5_fill, some 5, 3, 4)
theorem okX5_fill {l : Launch} {dC : Nat → ClassId} {dI ad : Nat → Nat → Nat} {cy : Nat → ClassId} : am_Ok l dC dI ad cy yX5_fill (.code yX5_fill cX5_fill 4 none) rmX5_fill fX5_fill :=
  am_meth_ok (ci := []) (by decide +kernel) rfl ⟨rfl, rfl⟩ (am_rows_of (by decide +kernel) (am_words_of [203, 204, 208] (by decide +kernel) (by decide +kernel))) am_cs_nil (am_cv_of (by decide +kernel))
theorem calX5_fill {l : Launch} {dC : Nat → ClassId} {dI ad : Nat → Nat → Nat} {cy : Nat → ClassId} {R : Room} (h1 : rmX5_fill.frames + 1 ≤ R.frames) (h2 : 8 + (4 + 11) + rmX5_fill.locals ≤ R.locals) : am_Cal l dC dI ad cy R 0 0 cqX5_fill fX5_fill :=
  ⟨okX5_fill, am_inU 818 (by decide +kernel) (by decide +kernel), Nat.le_refl _, Nat.le_refl _, h1, h2, ⟨by decide, by decide, by decide +kernel⟩, ⟨by decide, rfl⟩, Or.inl ⟨_, _, rfl⟩⟩
abbrev rmX5_canGive : Room := { frames := 0, cells := 0, slots := 0, locals := 0 }
def cqX5_canGive : am_C := (yX5_canGive, .code yX5_canGive cX5_canGive 4 (some .boolean), rmX5_canGive, some 5, 3, 4)
theorem okX5_canGive {l : Launch} {dC : Nat → ClassId} {dI ad : Nat → Nat → Nat} {cy : Nat → ClassId} : am_Ok l dC dI ad cy yX5_canGive (.code yX5_canGive cX5_canGive 4 (some .boolean)) rmX5_canGive fX5_canGive :=
  am_meth_ok (ci := []) (by decide +kernel) rfl ⟨rfl, rfl⟩ (am_rows_of (by decide +kernel) (am_words_of [203, 208, 204, 206] (by decide +kernel) (by decide +kernel))) am_cs_nil (am_cv_of (by decide +kernel))
theorem calX5_canGive {l : Launch} {dC : Nat → ClassId} {dI ad : Nat → Nat → Nat} {cy : Nat → ClassId} {R : Room} (h1 : rmX5_canGive.frames + 1 ≤ R.frames) (h2 : 8 + (4 + 11) + rmX5_canGive.locals ≤ R.locals) : am_Cal l dC dI ad cy R 0 0 cqX5_canGive fX5_canGive :=
  ⟨okX5_canGive, am_inU 540 (by decide +kernel) (by decide +kernel), Nat.le_refl _, Nat.le_refl _, h1, h2, ⟨by decide, by decide, by decide +kernel⟩, ⟨by decide, rfl⟩, Or.inl ⟨_, _, rfl⟩⟩
abbrev rmX6_accepts : Room := { frames := 1, cells := 0, slots := 0, locals := 22 }
def cqX6_accepts : am_C := (yX6_accepts, .code yX6_accepts cX6_accepts 2 (some .boolean), rmX6_accepts, none, 2, 2)
theorem okX6_accepts {l : Launch} {dC : Nat → ClassId} {dI ad : Nat → Nat → Nat} {cy : Nat → ClassId} : am_Ok l dC dI ad cy yX6_accepts (.code yX6_accepts cX6_accepts 2 (some .boolean)) rmX6_accepts fX6_accepts :=
  am_meth_ok (ci := [cqX9_isWithin]) (by decide +kernel) rfl ⟨rfl, rfl⟩ (am_rows_of (by decide +kernel) (am_words_of [380, 56, 605, 607, 380, 56] (by decide +kernel) (by decide +kernel))) (am_cs_cons (calX9_isWithin (by decide) (by decide)) am_cs_nil) (am_cv_of (by decide +kernel))
theorem calX6_accepts {l : Launch} {dC : Nat → ClassId} {dI ad : Nat → Nat → Nat} {cy : Nat → ClassId} {R : Room} (h1 : rmX6_accepts.frames + 1 ≤ R.frames) (h2 : 8 + (2 + 11) + rmX6_accepts.locals ≤ R.locals) : am_Cal l dC dI ad cy R 0 0 cqX6_accepts fX6_accepts :=
  ⟨okX6_accepts, am_inU 604 (by decide +kernel) (by decide +kernel), Nat.le_refl _, Nat.le_refl _, h1, h2, ⟨by decide, by decide, by decide +kernel⟩, trivial, Or.inl ⟨_, _, rfl⟩⟩
abbrev rmX6_kindOf : Room := { frames := 0, cells := 0, slots := 0, locals := 0 }
def cqX6_kindOf : am_C := (yX6_kindOf, .code yX6_kindOf cX6_kindOf 2 (some .int), rmX6_kindOf, some 6, 1, 2)
theorem okX6_kindOf {l : Launch} {dC : Nat → ClassId} {dI ad : Nat → Nat → Nat} {cy : Nat → ClassId} : am_Ok l dC dI ad cy yX6_kindOf (.code yX6_kindOf cX6_kindOf 2 (some .int)) rmX6_kindOf fX6_kindOf :=
  am_meth_ok (ci := []) (by decide +kernel) rfl ⟨rfl, rfl⟩ (am_rows_of (by decide +kernel) (am_words_of [163] (by decide +kernel) (by decide +kernel))) am_cs_nil (am_cv_of (by decide +kernel))
theorem calX6_kindOf {l : Launch} {dC : Nat → ClassId} {dI ad : Nat → Nat → Nat} {cy : Nat → ClassId} {R : Room} (h1 : rmX6_kindOf.frames + 1 ≤ R.frames) (h2 : 8 + (2 + 11) + rmX6_kindOf.locals ≤ R.locals) : am_Cal l dC dI ad cy R 0 0 cqX6_kindOf fX6_kindOf :=
  ⟨okX6_kindOf, am_inU 532 (by decide +kernel) (by decide +kernel), Nat.le_refl _, Nat.le_refl _, h1, h2, ⟨by decide, by decide, by decide +kernel⟩, ⟨by decide, rfl⟩, Or.inl ⟨_, _, rfl⟩⟩
abbrev rmX6_doseOf : Room := { frames := 0, cells := 0, slots := 0, locals := 0 }
def cqX6_doseOf : am_C := (yX6_doseOf, .code yX6_doseOf cX6_doseOf 2 (some .int), rmX6_doseOf, some 6, 1, 2)
theorem okX6_doseOf {l : Launch} {dC : Nat → ClassId} {dI ad : Nat → Nat → Nat} {cy : Nat → ClassId} : am_Ok l dC dI ad cy yX6_doseOf (.code yX6_doseOf cX6_doseOf 2 (some .int)) rmX6_doseOf fX6_doseOf :=
  am_meth_ok (ci := []) (by decide +kernel) rfl ⟨rfl, rfl⟩ (am_rows_of (by decide +kernel) (am_words_of [163] (by decide +kernel) (by decide +kernel))) am_cs_nil (am_cv_of (by decide +kernel))
theorem calX6_doseOf {l : Launch} {dC : Nat → ClassId} {dI ad : Nat → Nat → Nat} {cy : Nat → ClassId} {R : Room} (h1 : rmX6_doseOf.frames + 1 ≤ R.frames) (h2 : 8 + (2 + 11) + rmX6_doseOf.locals ≤ R.locals) : am_Cal l dC dI ad cy R 0 0 cqX6_doseOf fX6_doseOf :=
  ⟨okX6_doseOf, am_inU 536 (by decide +kernel) (by decide +kernel), Nat.le_refl _, Nat.le_refl _, h1, h2, ⟨by decide, by decide, by decide +kernel⟩, ⟨by decide, rfl⟩, Or.inl ⟨_, _, rfl⟩⟩
abbrev rmX6_ageOf : Room := { frames := 0, cells := 0, slots := 0, locals := 0 }
def cqX6_ageOf : am_C := (yX6_ageOf, .code yX6_ageOf cX6_ageOf 2 (some .int), rmX6_ageOf, some 6, 1, 2)
theorem okX6_ageOf {l : Launch} {dC : Nat → ClassId} {dI ad : Nat → Nat → Nat} {cy : Nat → ClassId} : am_Ok l dC dI ad cy yX6_ageOf (.code yX6_ageOf cX6_ageOf 2 (some .int)) rmX6_ageOf fX6_ageOf :=
  am_meth_ok (ci := []) (by decide +kernel) rfl ⟨rfl, rfl⟩ (am_rows_of (by decide +kernel) (am_words_of [163] (by decide +kernel) (by decide +kernel))) am_cs_nil (am_cv_of (by decide +kernel))
theorem calX6_ageOf {l : Launch} {dC : Nat → ClassId} {dI ad : Nat → Nat → Nat} {cy : Nat → ClassId} {R : Room} (h1 : rmX6_ageOf.frames + 1 ≤ R.frames) (h2 : 8 + (2 + 11) + rmX6_ageOf.locals ≤ R.locals) : am_Cal l dC dI ad cy R 0 0 cqX6_ageOf fX6_ageOf :=
  ⟨okX6_ageOf, am_inU 562 (by decide +kernel) (by decide +kernel), Nat.le_refl _, Nat.le_refl _, h1, h2, ⟨by decide, by decide, by decide +kernel⟩, ⟨by decide, rfl⟩, Or.inl ⟨_, _, rfl⟩⟩
abbrev rmX6_lacks : Room := { frames := 1, cells := 0, slots := 0, locals := 21 }
def cqX6_lacks : am_C := (yX6_lacks, .code yX6_lacks cX6_lacks 3 (some .boolean), rmX6_lacks, some 6, 2, 3)
theorem okX6_lacks {l : Launch} {dC : Nat → ClassId} {dI ad : Nat → Nat → Nat} {cy : Nat → ClassId} : am_Ok l dC dI ad cy yX6_lacks (.code yX6_lacks cX6_lacks 3 (some .boolean)) rmX6_lacks fX6_lacks :=
  am_meth_ok (ci := [cqX6_kindOf]) (by decide +kernel) rfl ⟨rfl, rfl⟩ (am_rows_of (by decide +kernel) (am_words_of [545, 530, 531, 59] (by decide +kernel) (by decide +kernel))) (am_cs_cons (calX6_kindOf (by decide) (by decide)) am_cs_nil) (am_cv_of (by decide +kernel))
theorem calX6_lacks {l : Launch} {dC : Nat → ClassId} {dI ad : Nat → Nat → Nat} {cy : Nat → ClassId} {R : Room} (h1 : rmX6_lacks.frames + 1 ≤ R.frames) (h2 : 8 + (3 + 11) + rmX6_lacks.locals ≤ R.locals) : am_Cal l dC dI ad cy R 0 0 cqX6_lacks fX6_lacks :=
  ⟨okX6_lacks, am_inU 544 (by decide +kernel) (by decide +kernel), Nat.le_refl _, Nat.le_refl _, h1, h2, ⟨by decide, by decide, by decide +kernel⟩, ⟨by decide, rfl⟩, Or.inl ⟨_, _, rfl⟩⟩
abbrev rmX6_sampleVolume : Room := { frames := 0, cells := 0, slots := 0, locals := 0 }
def cqX6_sampleVolume : am_C := (yX6_sampleVolume, .code yX6_sampleVolume cX6_sampleVolume 3 (some .int), rmX6_sampleVolume, some 6, 1, 3)
theorem okX6_sampleVolume {l : Launch} {dC : Nat → ClassId} {dI ad : Nat → Nat → Nat} {cy : Nat → ClassId} : am_Ok l dC dI ad cy yX6_sampleVolume (.code yX6_sampleVolume cX6_sampleVolume 3 (some .int)) rmX6_sampleVolume fX6_sampleVolume :=
  am_meth_ok (ci := []) (by decide +kernel) rfl ⟨rfl, rfl⟩ (am_rows_of (by decide +kernel) (am_words_of [163, 163, 163] (by decide +kernel) (by decide +kernel))) am_cs_nil (am_cv_of (by decide +kernel))
theorem calX6_sampleVolume {l : Launch} {dC : Nat → ClassId} {dI ad : Nat → Nat → Nat} {cy : Nat → ClassId} {R : Room} (h1 : rmX6_sampleVolume.frames + 1 ≤ R.frames) (h2 : 8 + (3 + 11) + rmX6_sampleVolume.locals ≤ R.locals) : am_Cal l dC dI ad cy R 0 0 cqX6_sampleVolume fX6_sampleVolume :=
  ⟨okX6_sampleVolume, am_inU 523 (by decide +kernel) (by decide +kernel), Nat.le_refl _, Nat.le_refl _, h1, h2, ⟨by decide, by decide, by decide +kernel⟩, ⟨by decide, rfl⟩, Or.inl ⟨_, _, rfl⟩⟩
abbrev rmX6_isReagentRight : Room := { frames := 1, cells := 0, slots := 0, locals := 21 }
def cqX6_isReagentRight : am_C := (yX6_isReagentRight, .code yX6_isReagentRight cX6_isReagentRight 2 (some .boolean), rmX6_isReagentRight, some 6, 1, 2)
theorem okX6_isReagentRight {l : Launch} {dC : Nat → ClassId} {dI ad : Nat → Nat → Nat} {cy : Nat → ClassId} : am_Ok l dC dI ad cy yX6_isReagentRight (.code yX6_isReagentRight cX6_isReagentRight 2 (some .boolean)) rmX6_isReagentRight fX6_isReagentRight :=
  am_meth_ok (ci := [cqX6_doseOf, cqX6_ageOf]) (by decide +kernel) rfl ⟨rfl, rfl⟩ (am_rows_of (by decide +kernel) (am_words_of [742, 534, 535, 59, 743, 560, 561, 59, 743, 560, 561, 59, 163] (by decide +kernel) (by decide +kernel))) (am_cs_cons (calX6_doseOf (by decide) (by decide)) (am_cs_cons (calX6_ageOf (by decide) (by decide)) am_cs_nil)) (am_cv_of (by decide +kernel))
theorem calX6_isReagentRight {l : Launch} {dC : Nat → ClassId} {dI ad : Nat → Nat → Nat} {cy : Nat → ClassId} {R : Room} (h1 : rmX6_isReagentRight.frames + 1 ≤ R.frames) (h2 : 8 + (2 + 11) + rmX6_isReagentRight.locals ≤ R.locals) : am_Cal l dC dI ad cy R 0 0 cqX6_isReagentRight fX6_isReagentRight :=
  ⟨okX6_isReagentRight, am_inU 741 (by decide +kernel) (by decide +kernel), Nat.le_refl _, Nat.le_refl _, h1, h2, ⟨by decide, by decide, by decide +kernel⟩, ⟨by decide, rfl⟩, Or.inl ⟨_, _, rfl⟩⟩
abbrev rmX6_areReagentsRight : Room := { frames := 2, cells := 0, slots := 0, locals := 42 }
def cqX6_areReagentsRight : am_C := (yX6_areReagentsRight, .code yX6_areReagentsRight cX6_areReagentsRight 1 (some .boolean), rmX6_areReagentsRight, some 6, 0, 1)
theorem okX6_areReagentsRight {l : Launch} {dC : Nat → ClassId} {dI ad : Nat → Nat → Nat} {cy : Nat → ClassId} : am_Ok l dC dI ad cy yX6_areReagentsRight (.code yX6_areReagentsRight cX6_areReagentsRight 1 (some .boolean)) rmX6_areReagentsRight fX6_areReagentsRight :=
  am_meth_ok (ci := [cqX6_kindOf, cqX6_isReagentRight, cqX6_ageOf]) (by decide +kernel) rfl ⟨rfl, rfl⟩ (am_rows_of (by decide +kernel) (am_words_of [545, 530, 531, 59, 545, 530, 531, 59, 738, 740, 21, 59, 545, 530, 531, 59, 738, 740, 21, 59, 743, 560, 561, 59, 743, 560, 561, 59] (by decide +kernel) (by decide +kernel))) (am_cs_cons (calX6_kindOf (by decide) (by decide)) (am_cs_cons (calX6_isReagentRight (by decide) (by decide)) (am_cs_cons (calX6_ageOf (by decide) (by decide)) am_cs_nil))) (am_cv_of (by decide +kernel))
theorem calX6_areReagentsRight {l : Launch} {dC : Nat → ClassId} {dI ad : Nat → Nat → Nat} {cy : Nat → ClassId} {R : Room} (h1 : rmX6_areReagentsRight.frames + 1 ≤ R.frames) (h2 : 8 + (1 + 11) + rmX6_areReagentsRight.locals ≤ R.locals) : am_Cal l dC dI ad cy R 0 0 cqX6_areReagentsRight fX6_areReagentsRight :=
  ⟨okX6_areReagentsRight, am_inU 737 (by decide +kernel) (by decide +kernel), Nat.le_refl _, Nat.le_refl _, h1, h2, ⟨by decide, by decide, by decide +kernel⟩, ⟨by decide, rfl⟩, Or.inl ⟨_, _, rfl⟩⟩
abbrev rmX6_areReadingsRight : Room := { frames := 1, cells := 0, slots := 0, locals := 22 }
def cqX6_areReadingsRight : am_C := (yX6_areReadingsRight, .code yX6_areReadingsRight cX6_areReadingsRight 3 (some .boolean), rmX6_areReadingsRight, some 6, 0, 3)
theorem okX6_areReadingsRight {l : Launch} {dC : Nat → ClassId} {dI ad : Nat → Nat → Nat} {cy : Nat → ClassId} : am_Ok l dC dI ad cy yX6_areReadingsRight (.code yX6_areReadingsRight cX6_areReadingsRight 3 (some .boolean)) rmX6_areReadingsRight fX6_areReadingsRight :=
  am_meth_ok (ci := [cqX9_isWithin]) (by decide +kernel) rfl ⟨rfl, rfl⟩ (am_rows_of (by decide +kernel) (am_words_of [163, 163, 163, 163, 380, 56] (by decide +kernel) (by decide +kernel))) (am_cs_cons (calX9_isWithin (by decide) (by decide)) am_cs_nil) (am_cv_of (by decide +kernel))
theorem calX6_areReadingsRight {l : Launch} {dC : Nat → ClassId} {dI ad : Nat → Nat → Nat} {cy : Nat → ClassId} {R : Room} (h1 : rmX6_areReadingsRight.frames + 1 ≤ R.frames) (h2 : 8 + (3 + 11) + rmX6_areReadingsRight.locals ≤ R.locals) : am_Cal l dC dI ad cy R 0 0 cqX6_areReadingsRight fX6_areReadingsRight :=
  ⟨okX6_areReadingsRight, am_inU 747 (by decide +kernel) (by decide +kernel), Nat.le_refl _, Nat.le_refl _, h1, h2, ⟨by decide, by decide, by decide +kernel⟩, ⟨by decide, rfl⟩, Or.inl ⟨_, _, rfl⟩⟩
abbrev rmX6_dilutes : Room := { frames := 0, cells := 0, slots := 0, locals := 0 }
def cqX6_dilutes : am_C := (yX6_dilutes, .code yX6_dilutes cX6_dilutes 1 (some .boolean), rmX6_dilutes, some 6, 0, 1)
theorem okX6_dilutes {l : Launch} {dC : Nat → ClassId} {dI ad : Nat → Nat → Nat} {cy : Nat → ClassId} : am_Ok l dC dI ad cy yX6_dilutes (.code yX6_dilutes cX6_dilutes 1 (some .boolean)) rmX6_dilutes fX6_dilutes :=
  am_meth_ok (ci := []) (by decide +kernel) rfl ⟨rfl, rfl⟩ (am_rows_of (by decide +kernel) (am_words_of [163] (by decide +kernel) (by decide +kernel))) am_cs_nil (am_cv_of (by decide +kernel))
theorem calX6_dilutes {l : Launch} {dC : Nat → ClassId} {dI ad : Nat → Nat → Nat} {cy : Nat → ClassId} {R : Room} (h1 : rmX6_dilutes.frames + 1 ≤ R.frames) (h2 : 8 + (1 + 11) + rmX6_dilutes.locals ≤ R.locals) : am_Cal l dC dI ad cy R 0 0 cqX6_dilutes fX6_dilutes :=
  ⟨okX6_dilutes, am_inU 494 (by decide +kernel) (by decide +kernel), Nat.le_refl _, Nat.le_refl _, h1, h2, ⟨by decide, by decide, by decide +kernel⟩, ⟨by decide, rfl⟩, Or.inl ⟨_, _, rfl⟩⟩
abbrev rmX6_isDilutionRight : Room := { frames := 1, cells := 0, slots := 0, locals := 20 }
def cqX6_isDilutionRight : am_C := (yX6_isDilutionRight, .code yX6_isDilutionRight cX6_isDilutionRight 2 (some .boolean), rmX6_isDilutionRight, some 6, 0, 2)
theorem okX6_isDilutionRight {l : Launch} {dC : Nat → ClassId} {dI ad : Nat → Nat → Nat} {cy : Nat → ClassId} : am_Ok l dC dI ad cy yX6_isDilutionRight (.code yX6_isDilutionRight cX6_isDilutionRight 2 (some .boolean)) rmX6_isDilutionRight fX6_isDilutionRight :=
  am_meth_ok (ci := [cqX6_dilutes]) (by decide +kernel) rfl ⟨rfl, rfl⟩ (am_rows_of (by decide +kernel) (am_words_of [163, 752, 492, 493, 59, 163] (by decide +kernel) (by decide +kernel))) (am_cs_cons (calX6_dilutes (by decide) (by decide)) am_cs_nil) (am_cv_of (by decide +kernel))
theorem calX6_isDilutionRight {l : Launch} {dC : Nat → ClassId} {dI ad : Nat → Nat → Nat} {cy : Nat → ClassId} {R : Room} (h1 : rmX6_isDilutionRight.frames + 1 ≤ R.frames) (h2 : 8 + (2 + 11) + rmX6_isDilutionRight.locals ≤ R.locals) : am_Cal l dC dI ad cy R 0 0 cqX6_isDilutionRight fX6_isDilutionRight :=
  ⟨okX6_isDilutionRight, am_inU 751 (by decide +kernel) (by decide +kernel), Nat.le_refl _, Nat.le_refl _, h1, h2, ⟨by decide, by decide, by decide +kernel⟩, ⟨by decide, rfl⟩, Or.inl ⟨_, _, rfl⟩⟩
abbrev rmX6_isComplete : Room := { frames := 3, cells := 0, slots := 0, locals := 62 }
def cqX6_isComplete : am_C := (yX6_isComplete, .code yX6_isComplete cX6_isComplete 1 (some .boolean), rmX6_isComplete, some 6, 0, 1)
theorem okX6_isComplete {l : Launch} {dC : Nat → ClassId} {dI ad : Nat → Nat → Nat} {cy : Nat → ClassId} : am_Ok l dC dI ad cy yX6_isComplete (.code yX6_isComplete cX6_isComplete 1 (some .boolean)) rmX6_isComplete fX6_isComplete :=
  am_meth_ok (ci := [cqX6_areReagentsRight, cqX6_areReadingsRight, cqX6_isDilutionRight, cqX0_isComplete]) (by decide +kernel) rfl ⟨rfl, rfl⟩ (am_rows_of (by decide +kernel) (am_words_of [163, 734, 736, 20, 59, 744, 746, 22, 59, 163, 163, 748, 750, 23, 59, 165, 753, 754, 755, 60] (by decide +kernel) (by decide +kernel))) (am_cs_cons (calX6_areReagentsRight (by decide) (by decide)) (am_cs_cons (calX6_areReadingsRight (by decide) (by decide)) (am_cs_cons (calX6_isDilutionRight (by decide) (by decide)) (am_cs_cons (calX0_isComplete (by decide) (by decide)) am_cs_nil)))) (am_cv_of (by decide +kernel))
theorem calX6_isComplete {l : Launch} {dC : Nat → ClassId} {dI ad : Nat → Nat → Nat} {cy : Nat → ClassId} {R : Room} (h1 : rmX6_isComplete.frames + 1 ≤ R.frames) (h2 : 8 + (1 + 11) + rmX6_isComplete.locals ≤ R.locals) : am_Cal l dC dI ad cy R 0 0 cqX6_isComplete fX6_isComplete :=
  ⟨okX6_isComplete, am_inU 733 (by decide +kernel) (by decide +kernel), Nat.le_refl _, Nat.le_refl _, h1, h2, ⟨by decide, by decide, by decide +kernel⟩, ⟨by decide, rfl⟩, Or.inl ⟨_, _, rfl⟩⟩
abbrev rmX6_isReadAt : Room := { frames := 1, cells := 0, slots := 0, locals := 22 }
def cqX6_isReadAt : am_C := (yX6_isReadAt, .code yX6_isReadAt cX6_isReadAt 2 (some .boolean), rmX6_isReadAt, some 6, 1, 2)
theorem okX6_isReadAt {l : Launch} {dC : Nat → ClassId} {dI ad : Nat → Nat → Nat} {cy : Nat → ClassId} : am_Ok l dC dI ad cy yX6_isReadAt (.code yX6_isReadAt cX6_isReadAt 2 (some .boolean)) rmX6_isReadAt fX6_isReadAt :=
  am_meth_ok (ci := [cqX9_isWithin]) (by decide +kernel) rfl ⟨rfl, rfl⟩ (am_rows_of (by decide +kernel) (am_words_of [163, 163, 380, 56] (by decide +kernel) (by decide +kernel))) (am_cs_cons (calX9_isWithin (by decide) (by decide)) am_cs_nil) (am_cv_of (by decide +kernel))
theorem calX6_isReadAt {l : Launch} {dC : Nat → ClassId} {dI ad : Nat → Nat → Nat} {cy : Nat → ClassId} {R : Room} (h1 : rmX6_isReadAt.frames + 1 ≤ R.frames) (h2 : 8 + (2 + 11) + rmX6_isReadAt.locals ≤ R.locals) : am_Cal l dC dI ad cy R 0 0 cqX6_isReadAt fX6_isReadAt :=
  ⟨okX6_isReadAt, am_inU 427 (by decide +kernel) (by decide +kernel), Nat.le_refl _, Nat.le_refl _, h1, h2, ⟨by decide, by decide, by decide +kernel⟩, ⟨by decide, rfl⟩, Or.inl ⟨_, _, rfl⟩⟩
abbrev rmX6_isOverAt : Room := { frames := 0, cells := 0, slots := 0, locals := 0 }
def cqX6_isOverAt : am_C := (yX6_isOverAt, .code yX6_isOverAt cX6_isOverAt 2 (some .boolean), rmX6_isOverAt, some 6, 1, 2)
theorem okX6_isOverAt {l : Launch} {dC : Nat → ClassId} {dI ad : Nat → Nat → Nat} {cy : Nat → ClassId} : am_Ok l dC dI ad cy yX6_isOverAt (.code yX6_isOverAt cX6_isOverAt 2 (some .boolean)) rmX6_isOverAt fX6_isOverAt :=
  am_meth_ok (ci := []) (by decide +kernel) rfl ⟨rfl, rfl⟩ (am_rows_of (by decide +kernel) (am_words_of [163] (by decide +kernel) (by decide +kernel))) am_cs_nil (am_cv_of (by decide +kernel))
theorem calX6_isOverAt {l : Launch} {dC : Nat → ClassId} {dI ad : Nat → Nat → Nat} {cy : Nat → ClassId} {R : Room} (h1 : rmX6_isOverAt.frames + 1 ≤ R.frames) (h2 : 8 + (2 + 11) + rmX6_isOverAt.locals ≤ R.locals) : am_Cal l dC dI ad cy R 0 0 cqX6_isOverAt fX6_isOverAt :=
  ⟨okX6_isOverAt, am_inU 440 (by decide +kernel) (by decide +kernel), Nat.le_refl _, Nat.le_refl _, h1, h2, ⟨by decide, by decide, by decide +kernel⟩, ⟨by decide, rfl⟩, Or.inl ⟨_, _, rfl⟩⟩
abbrev rmX6_asksAgain : Room := { frames := 0, cells := 0, slots := 0, locals := 0 }
def cqX6_asksAgain : am_C := (yX6_asksAgain, .code yX6_asksAgain cX6_asksAgain 2 (some .boolean), rmX6_asksAgain, some 6, 1, 2)
theorem okX6_asksAgain {l : Launch} {dC : Nat → ClassId} {dI ad : Nat → Nat → Nat} {cy : Nat → ClassId} : am_Ok l dC dI ad cy yX6_asksAgain (.code yX6_asksAgain cX6_asksAgain 2 (some .boolean)) rmX6_asksAgain fX6_asksAgain :=
  am_meth_ok (ci := []) (by decide +kernel) rfl ⟨rfl, rfl⟩ (am_rows_of (by decide +kernel) (am_words_of [163, 163] (by decide +kernel) (by decide +kernel))) am_cs_nil (am_cv_of (by decide +kernel))
theorem calX6_asksAgain {l : Launch} {dC : Nat → ClassId} {dI ad : Nat → Nat → Nat} {cy : Nat → ClassId} {R : Room} (h1 : rmX6_asksAgain.frames + 1 ≤ R.frames) (h2 : 8 + (2 + 11) + rmX6_asksAgain.locals ≤ R.locals) : am_Cal l dC dI ad cy R 0 0 cqX6_asksAgain fX6_asksAgain :=
  ⟨okX6_asksAgain, am_inU 490 (by decide +kernel) (by decide +kernel), Nat.le_refl _, Nat.le_refl _, h1, h2, ⟨by decide, by decide, by decide +kernel⟩, ⟨by decide, rfl⟩, Or.inl ⟨_, _, rfl⟩⟩
abbrev rmX6_limitFlags : Room := { frames := 0, cells := 0, slots := 0, locals := 0 }
def cqX6_limitFlags : am_C := (yX6_limitFlags, .code yX6_limitFlags cX6_limitFlags 2 (some .int), rmX6_limitFlags, some 6, 1, 2)
theorem okX6_limitFlags {l : Launch} {dC : Nat → ClassId} {dI ad : Nat → Nat → Nat} {cy : Nat → ClassId} : am_Ok l dC dI ad cy yX6_limitFlags (.code yX6_limitFlags cX6_limitFlags 2 (some .int)) rmX6_limitFlags fX6_limitFlags :=
  am_meth_ok (ci := []) (by decide +kernel) rfl ⟨rfl, rfl⟩ (am_rows_of (by decide +kernel) (am_words_of [163, 163] (by decide +kernel) (by decide +kernel))) am_cs_nil (am_cv_of (by decide +kernel))
theorem calX6_limitFlags {l : Launch} {dC : Nat → ClassId} {dI ad : Nat → Nat → Nat} {cy : Nat → ClassId} {R : Room} (h1 : rmX6_limitFlags.frames + 1 ≤ R.frames) (h2 : 8 + (2 + 11) + rmX6_limitFlags.locals ≤ R.locals) : am_Cal l dC dI ad cy R 0 0 cqX6_limitFlags fX6_limitFlags :=
  ⟨okX6_limitFlags, am_inU 482 (by decide +kernel) (by decide +kernel), Nat.le_refl _, Nat.le_refl _, h1, h2, ⟨by decide, by decide, by decide +kernel⟩, ⟨by decide, rfl⟩, Or.inl ⟨_, _, rfl⟩⟩
abbrev rmX6_valueAt : Room := { frames := 3, cells := 0, slots := 0, locals := 74 }
def cqX6_valueAt : am_C := (yX6_valueAt, .code yX6_valueAt cX6_valueAt 6 (some .long), rmX6_valueAt, some 6, 2, 6)
theorem okX6_valueAt {l : Launch} {dC : Nat → ClassId} {dI ad : Nat → Nat → Nat} {cy : Nat → ClassId} : am_Ok l dC dI ad cy yX6_valueAt (.code yX6_valueAt cX6_valueAt 6 (some .long)) rmX6_valueAt fX6_valueAt :=
  am_meth_ok (ci := [cqX0_valueAt]) (by decide +kernel) rfl ⟨rfl, rfl⟩ (am_rows_of (by decide +kernel) (am_words_of [165, 463, 464, 465, 60, 163] (by decide +kernel) (by decide +kernel))) (am_cs_cons (calX0_valueAt (by decide) (by decide)) am_cs_nil) (am_cv_of (by decide +kernel))
theorem calX6_valueAt {l : Launch} {dC : Nat → ClassId} {dI ad : Nat → Nat → Nat} {cy : Nat → ClassId} {R : Room} (h1 : rmX6_valueAt.frames + 1 ≤ R.frames) (h2 : 8 + (6 + 11) + rmX6_valueAt.locals ≤ R.locals) : am_Cal l dC dI ad cy R 0 0 cqX6_valueAt fX6_valueAt :=
  ⟨okX6_valueAt, am_inU 462 (by decide +kernel) (by decide +kernel), Nat.le_refl _, Nat.le_refl _, h1, h2, ⟨by decide, by decide, by decide +kernel⟩, ⟨by decide, rfl⟩, Or.inl ⟨_, _, rfl⟩⟩
abbrev rmX6_rateOf : Room := { frames := 2, cells := 0, slots := 0, locals := 48 }
def cqX6_rateOf : am_C := (yX6_rateOf, .code yX6_rateOf cX6_rateOf 11 (some .long), rmX6_rateOf, none, 2, 11)
theorem okX6_rateOf {l : Launch} {dC : Nat → ClassId} {dI ad : Nat → Nat → Nat} {cy : Nat → ClassId} : am_Ok l dC dI ad cy yX6_rateOf (.code yX6_rateOf cX6_rateOf 11 (some .long)) rmX6_rateOf fX6_rateOf :=
  am_meth_ok (ci := [cqX9_rounded]) (by decide +kernel) rfl ⟨rfl, rfl⟩ (am_rows_of (by decide +kernel) (am_words_of [452, 454, 56] (by decide +kernel) (by decide +kernel))) (am_cs_cons (calX9_rounded (by decide) (by decide)) am_cs_nil) (am_cv_of (by decide +kernel))
theorem calX6_rateOf {l : Launch} {dC : Nat → ClassId} {dI ad : Nat → Nat → Nat} {cy : Nat → ClassId} {R : Room} (h1 : rmX6_rateOf.frames + 1 ≤ R.frames) (h2 : 8 + (11 + 11) + rmX6_rateOf.locals ≤ R.locals) : am_Cal l dC dI ad cy R 0 0 cqX6_rateOf fX6_rateOf :=
  ⟨okX6_rateOf, am_inU 451 (by decide +kernel) (by decide +kernel), Nat.le_refl _, Nat.le_refl _, h1, h2, ⟨by decide, by decide, by decide +kernel⟩, trivial, Or.inl ⟨_, _, rfl⟩⟩
abbrev rmX6_formulaOf : Room := { frames := 3, cells := 0, slots := 0, locals := 78 }
def cqX6_formulaOf : am_C := (yX6_formulaOf, .code yX6_formulaOf cX6_formulaOf 4 (some .long), rmX6_formulaOf, some 6, 2, 4)
theorem okX6_formulaOf {l : Launch} {dC : Nat → ClassId} {dI ad : Nat → Nat → Nat} {cy : Nat → ClassId} : am_Ok l dC dI ad cy yX6_formulaOf (.code yX6_formulaOf cX6_formulaOf 4 (some .long)) rmX6_formulaOf fX6_formulaOf :=
  am_meth_ok (ci := [cqX9_isWithin, cqX6_rateOf]) (by decide +kernel) rfl ⟨rfl, rfl⟩ (am_rows_of (by decide +kernel) (am_words_of [380, 56, 163, 450, 59, 449, 163] (by decide +kernel) (by decide +kernel))) (am_cs_cons (calX9_isWithin (by decide) (by decide)) (am_cs_cons (calX6_rateOf (by decide) (by decide)) am_cs_nil)) (am_cv_of (by decide +kernel))
theorem calX6_formulaOf {l : Launch} {dC : Nat → ClassId} {dI ad : Nat → Nat → Nat} {cy : Nat → ClassId} {R : Room} (h1 : rmX6_formulaOf.frames + 1 ≤ R.frames) (h2 : 8 + (4 + 11) + rmX6_formulaOf.locals ≤ R.locals) : am_Cal l dC dI ad cy R 0 0 cqX6_formulaOf fX6_formulaOf :=
  ⟨okX6_formulaOf, am_inU 448 (by decide +kernel) (by decide +kernel), Nat.le_refl _, Nat.le_refl _, h1, h2, ⟨by decide, by decide, by decide +kernel⟩, ⟨by decide, rfl⟩, Or.inl ⟨_, _, rfl⟩⟩
abbrev rmX6_brokenRules : Room := { frames := 3, cells := 0, slots := 0, locals := 68 }
def cqX6_brokenRules : am_C := (yX6_brokenRules, .code yX6_brokenRules cX6_brokenRules 8 (some .int), rmX6_brokenRules, some 6, 0, 8)
theorem okX6_brokenRules {l : Launch} {dC : Nat → ClassId} {dI ad : Nat → Nat → Nat} {cy : Nat → ClassId} : am_Ok l dC dI ad cy yX6_brokenRules (.code yX6_brokenRules cX6_brokenRules 8 (some .int)) rmX6_brokenRules fX6_brokenRules :=
  am_meth_ok (ci := [cqX2_above, cqX2_below]) (by decide +kernel) rfl ⟨rfl, rfl⟩ (am_rows_of (by decide +kernel) (am_words_of [163, 163, 167, 929, 930, 931, 932, 61, 167, 929, 935, 936, 937, 61, 167, 939, 930, 931, 932, 61, 167, 939, 935, 936, 937, 61, 167, 930, 931, 932, 61, 167, 935, 936, 937, 61] (by decide +kernel) (by decide +kernel))) (am_cs_cons (calX2_above (by decide) (by decide)) (am_cs_cons (calX2_below (by decide) (by decide)) am_cs_nil)) (am_cv_of (by decide +kernel))
theorem calX6_brokenRules {l : Launch} {dC : Nat → ClassId} {dI ad : Nat → Nat → Nat} {cy : Nat → ClassId} {R : Room} (h1 : rmX6_brokenRules.frames + 1 ≤ R.frames) (h2 : 8 + (8 + 11) + rmX6_brokenRules.locals ≤ R.locals) : am_Cal l dC dI ad cy R 0 0 cqX6_brokenRules fX6_brokenRules :=
  ⟨okX6_brokenRules, am_inU 928 (by decide +kernel) (by decide +kernel), Nat.le_refl _, Nat.le_refl _, h1, h2, ⟨by decide, by decide, by decide +kernel⟩, ⟨by decide, rfl⟩, Or.inl ⟨_, _, rfl⟩⟩
abbrev rmX7_turnSuccession : Room := { frames := 0, cells := 0, slots := 0, locals := 0 }
def cqX7_turnSuccession : am_C := (yX7_turnSuccession, .code yX7_turnSuccession cX7_turnSuccession 4 (some .boolean), rmX7_turnSuccession, some 7, 2, 4)
theorem okX7_turnSuccession {l : Launch} {dC : Nat → ClassId} {dI ad : Nat → Nat → Nat} {cy : Nat → ClassId} : am_Ok l dC dI ad cy yX7_turnSuccession (.code yX7_turnSuccession cX7_turnSuccession 4 (some .boolean)) rmX7_turnSuccession fX7_turnSuccession :=
  am_meth_ok (ci := []) (by decide +kernel) rfl ⟨rfl, rfl⟩ (am_rows_of (by decide +kernel) (am_words_of [101, 101, 101] (by decide +kernel) (by decide +kernel))) am_cs_nil (am_cv_of (by decide +kernel))
theorem calX7_turnSuccession {l : Launch} {dC : Nat → ClassId} {dI ad : Nat → Nat → Nat} {cy : Nat → ClassId} {R : Room} (h1 : rmX7_turnSuccession.frames + 1 ≤ R.frames) (h2 : 8 + (4 + 11) + rmX7_turnSuccession.locals ≤ R.locals) : am_Cal l dC dI ad cy R 0 0 cqX7_turnSuccession fX7_turnSuccession :=
  ⟨okX7_turnSuccession, am_inU 829 (by decide +kernel) (by decide +kernel), Nat.le_refl _, Nat.le_refl _, h1, h2, ⟨by decide, by decide, by decide +kernel⟩, ⟨by decide, rfl⟩, Or.inl ⟨_, _, rfl⟩⟩
abbrev rmX7_clear : Room := { frames := 0, cells := 0, slots := 0, locals := 0 }
def cqX7_clear : am_C := (yX7_clear, .code yX7_clear cX7_clear 2 none, rmX7_clear, some 7, 1, 2)
theorem okX7_clear {l : Launch} {dC : Nat → ClassId} {dI ad : Nat → Nat → Nat} {cy : Nat → ClassId} : am_Ok l dC dI ad cy yX7_clear (.code yX7_clear cX7_clear 2 none) rmX7_clear fX7_clear :=
  am_meth_ok (ci := []) (by decide +kernel) rfl ⟨rfl, rfl⟩ (am_rows_of (by decide +kernel) (am_words_of [99, 100] (by decide +kernel) (by decide +kernel))) am_cs_nil (am_cv_of (by decide +kernel))
theorem calX7_clear {l : Launch} {dC : Nat → ClassId} {dI ad : Nat → Nat → Nat} {cy : Nat → ClassId} {R : Room} (h1 : rmX7_clear.frames + 1 ≤ R.frames) (h2 : 8 + (2 + 11) + rmX7_clear.locals ≤ R.locals) : am_Cal l dC dI ad cy R 0 0 cqX7_clear fX7_clear :=
  ⟨okX7_clear, am_inU 370 (by decide +kernel) (by decide +kernel), Nat.le_refl _, Nat.le_refl _, h1, h2, ⟨by decide, by decide, by decide +kernel⟩, ⟨by decide, rfl⟩, Or.inl ⟨_, _, rfl⟩⟩
abbrev rmX7_turn : Room := { frames := 1, cells := 0, slots := 0, locals := 21 }
def cqX7_turn : am_C := (yX7_turn, .code yX7_turn cX7_turn 2 none, rmX7_turn, some 7, 0, 2)
theorem okX7_turn {l : Launch} {dC : Nat → ClassId} {dI ad : Nat → Nat → Nat} {cy : Nat → ClassId} : am_Ok l dC dI ad cy yX7_turn (.code yX7_turn cX7_turn 2 none) rmX7_turn fX7_turn :=
  am_meth_ok (ci := [cqX7_clear]) (by decide +kernel) rfl ⟨rfl, rfl⟩ (am_rows_of (by decide +kernel) (am_words_of [99, 99, 100, 100, 367, 369, 1, 57] (by decide +kernel) (by decide +kernel))) (am_cs_cons (calX7_clear (by decide) (by decide)) am_cs_nil) (am_cv_of (by decide +kernel))
theorem calX7_turn {l : Launch} {dC : Nat → ClassId} {dI ad : Nat → Nat → Nat} {cy : Nat → ClassId} {R : Room} (h1 : rmX7_turn.frames + 1 ≤ R.frames) (h2 : 8 + (2 + 11) + rmX7_turn.locals ≤ R.locals) : am_Cal l dC dI ad cy R 0 0 cqX7_turn fX7_turn :=
  ⟨okX7_turn, am_inU 366 (by decide +kernel) (by decide +kernel), Nat.le_refl _, Nat.le_refl _, h1, h2, ⟨by decide, by decide, by decide +kernel⟩, ⟨by decide, rfl⟩, Or.inl ⟨_, _, rfl⟩⟩
abbrev rmX7_userNow : Room := { frames := 0, cells := 0, slots := 0, locals := 0 }
def cqX7_userNow : am_C := (yX7_userNow, .code yX7_userNow cX7_userNow 1 (some .int), rmX7_userNow, some 7, 0, 1)
theorem okX7_userNow {l : Launch} {dC : Nat → ClassId} {dI ad : Nat → Nat → Nat} {cy : Nat → ClassId} : am_Ok l dC dI ad cy yX7_userNow (.code yX7_userNow cX7_userNow 1 (some .int)) rmX7_userNow fX7_userNow :=
  am_meth_ok (ci := []) (by decide +kernel) rfl ⟨rfl, rfl⟩ (am_rows_of (by decide +kernel) (am_words_of [100] (by decide +kernel) (by decide +kernel))) am_cs_nil (am_cv_of (by decide +kernel))
theorem calX7_userNow {l : Launch} {dC : Nat → ClassId} {dI ad : Nat → Nat → Nat} {cy : Nat → ClassId} {R : Room} (h1 : rmX7_userNow.frames + 1 ≤ R.frames) (h2 : 8 + (1 + 11) + rmX7_userNow.locals ≤ R.locals) : am_Cal l dC dI ad cy R 0 0 cqX7_userNow fX7_userNow :=
  ⟨okX7_userNow, am_inU 378 (by decide +kernel) (by decide +kernel), Nat.le_refl _, Nat.le_refl _, h1, h2, ⟨by decide, by decide, by decide +kernel⟩, ⟨by decide, rfl⟩, Or.inl ⟨_, _, rfl⟩⟩
abbrev rmX7_isFree : Room := { frames := 1, cells := 0, slots := 0, locals := 22 }
def cqX7_isFree : am_C := (yX7_isFree, .code yX7_isFree cX7_isFree 2 (some .boolean), rmX7_isFree, some 7, 1, 2)
theorem okX7_isFree {l : Launch} {dC : Nat → ClassId} {dI ad : Nat → Nat → Nat} {cy : Nat → ClassId} : am_Ok l dC dI ad cy yX7_isFree (.code yX7_isFree cX7_isFree 2 (some .boolean)) rmX7_isFree fX7_isFree :=
  am_meth_ok (ci := [cqX9_isWithin]) (by decide +kernel) rfl ⟨rfl, rfl⟩ (am_rows_of (by decide +kernel) (am_words_of [380, 56, 99] (by decide +kernel) (by decide +kernel))) (am_cs_cons (calX9_isWithin (by decide) (by decide)) am_cs_nil) (am_cv_of (by decide +kernel))
theorem calX7_isFree {l : Launch} {dC : Nat → ClassId} {dI ad : Nat → Nat → Nat} {cy : Nat → ClassId} {R : Room} (h1 : rmX7_isFree.frames + 1 ≤ R.frames) (h2 : 8 + (2 + 11) + rmX7_isFree.locals ≤ R.locals) : am_Cal l dC dI ad cy R 0 0 cqX7_isFree fX7_isFree :=
  ⟨okX7_isFree, am_inU 566 (by decide +kernel) (by decide +kernel), Nat.le_refl _, Nat.le_refl _, h1, h2, ⟨by decide, by decide, by decide +kernel⟩, ⟨by decide, rfl⟩, Or.inl ⟨_, _, rfl⟩⟩
abbrev rmX7_hasForbiddenSuccession : Room := { frames := 0, cells := 0, slots := 0, locals := 0 }
def cqX7_hasForbiddenSuccession : am_C := (yX7_hasForbiddenSuccession, .code yX7_hasForbiddenSuccession cX7_hasForbiddenSuccession 2 (some .boolean), rmX7_hasForbiddenSuccession, some 7, 0, 2)
theorem okX7_hasForbiddenSuccession {l : Launch} {dC : Nat → ClassId} {dI ad : Nat → Nat → Nat} {cy : Nat → ClassId} : am_Ok l dC dI ad cy yX7_hasForbiddenSuccession (.code yX7_hasForbiddenSuccession cX7_hasForbiddenSuccession 2 (some .boolean)) rmX7_hasForbiddenSuccession fX7_hasForbiddenSuccession :=
  am_meth_ok (ci := []) (by decide +kernel) rfl ⟨rfl, rfl⟩ (am_rows_of (by decide +kernel) (am_words_of [99, 99, 101, 99, 99] (by decide +kernel) (by decide +kernel))) am_cs_nil (am_cv_of (by decide +kernel))
theorem calX7_hasForbiddenSuccession {l : Launch} {dC : Nat → ClassId} {dI ad : Nat → Nat → Nat} {cy : Nat → ClassId} {R : Room} (h1 : rmX7_hasForbiddenSuccession.frames + 1 ≤ R.frames) (h2 : 8 + (2 + 11) + rmX7_hasForbiddenSuccession.locals ≤ R.locals) : am_Cal l dC dI ad cy R 0 0 cqX7_hasForbiddenSuccession fX7_hasForbiddenSuccession :=
  ⟨okX7_hasForbiddenSuccession, am_inU 571 (by decide +kernel) (by decide +kernel), Nat.le_refl _, Nat.le_refl _, h1, h2, ⟨by decide, by decide, by decide +kernel⟩, ⟨by decide, rfl⟩, Or.inl ⟨_, _, rfl⟩⟩
abbrev rmX7_cancel : Room := { frames := 1, cells := 0, slots := 0, locals := 21 }
def cqX7_cancel : am_C := (yX7_cancel, .code yX7_cancel cX7_cancel 3 none, rmX7_cancel, some 7, 1, 3)
theorem okX7_cancel {l : Launch} {dC : Nat → ClassId} {dI ad : Nat → Nat → Nat} {cy : Nat → ClassId} : am_Ok l dC dI ad cy yX7_cancel (.code yX7_cancel cX7_cancel 3 none) rmX7_cancel fX7_cancel :=
  am_meth_ok (ci := [cqX7_clear]) (by decide +kernel) rfl ⟨rfl, rfl⟩ (am_rows_of (by decide +kernel) (am_words_of [100, 367, 369, 1, 57] (by decide +kernel) (by decide +kernel))) (am_cs_cons (calX7_clear (by decide) (by decide)) am_cs_nil) (am_cv_of (by decide +kernel))
theorem calX7_cancel {l : Launch} {dC : Nat → ClassId} {dI ad : Nat → Nat → Nat} {cy : Nat → ClassId} {R : Room} (h1 : rmX7_cancel.frames + 1 ≤ R.frames) (h2 : 8 + (3 + 11) + rmX7_cancel.locals ≤ R.locals) : am_Cal l dC dI ad cy R 0 0 cqX7_cancel fX7_cancel :=
  ⟨okX7_cancel, am_inU 389 (by decide +kernel) (by decide +kernel), Nat.le_refl _, Nat.le_refl _, h1, h2, ⟨by decide, by decide, by decide +kernel⟩, ⟨by decide, rfl⟩, Or.inl ⟨_, _, rfl⟩⟩
abbrev rmX7_book : Room := { frames := 2, cells := 0, slots := 0, locals := 43 }
def cqX7_book : am_C := (yX7_book, .code yX7_book cX7_book 4 (some .boolean), rmX7_book, some 7, 2, 4)
theorem okX7_book {l : Launch} {dC : Nat → ClassId} {dI ad : Nat → Nat → Nat} {cy : Nat → ClassId} : am_Ok l dC dI ad cy yX7_book (.code yX7_book cX7_book 4 (some .boolean)) rmX7_book fX7_book :=
  am_meth_ok (ci := [cqX6_kindOf, cqX6_ageOf, cqX7_isFree, cqX7_hasForbiddenSuccession, cqX7_cancel]) (by decide +kernel) rfl ⟨rfl, rfl⟩ (am_rows_of (by decide +kernel) (am_words_of [558, 530, 531, 59, 559, 560, 561, 59, 563, 565, 14, 57, 558, 530, 531, 59, 99, 559, 560, 561, 59, 558, 530, 531, 59, 100, 559, 560, 561, 59, 568, 570, 15, 57, 572, 387, 388, 57] (by decide +kernel) (by decide +kernel))) (am_cs_cons (calX6_kindOf (by decide) (by decide)) (am_cs_cons (calX6_ageOf (by decide) (by decide)) (am_cs_cons (calX7_isFree (by decide) (by decide)) (am_cs_cons (calX7_hasForbiddenSuccession (by decide) (by decide)) (am_cs_cons (calX7_cancel (by decide) (by decide)) am_cs_nil))))) (am_cv_of (by decide +kernel))
theorem calX7_book {l : Launch} {dC : Nat → ClassId} {dI ad : Nat → Nat → Nat} {cy : Nat → ClassId} {R : Room} (h1 : rmX7_book.frames + 1 ≤ R.frames) (h2 : 8 + (4 + 11) + rmX7_book.locals ≤ R.locals) : am_Cal l dC dI ad cy R 0 0 cqX7_book fX7_book :=
  ⟨okX7_book, am_inU 557 (by decide +kernel) (by decide +kernel), Nat.le_refl _, Nat.le_refl _, h1, h2, ⟨by decide, by decide, by decide +kernel⟩, ⟨by decide, rfl⟩, Or.inl ⟨_, _, rfl⟩⟩
abbrev rmX8_isEmpty : Room := { frames := 0, cells := 0, slots := 0, locals := 0 }
def cqX8_isEmpty : am_C := (yX8_isEmpty, .code yX8_isEmpty cX8_isEmpty 1 (some .boolean), rmX8_isEmpty, some 8, 0, 1)
theorem okX8_isEmpty {l : Launch} {dC : Nat → ClassId} {dI ad : Nat → Nat → Nat} {cy : Nat → ClassId} : am_Ok l dC dI ad cy yX8_isEmpty (.code yX8_isEmpty cX8_isEmpty 1 (some .boolean)) rmX8_isEmpty fX8_isEmpty :=
  am_meth_ok (ci := []) (by decide +kernel) rfl ⟨rfl, rfl⟩ (am_rows_of (by decide +kernel) (am_words_of [185] (by decide +kernel) (by decide +kernel))) am_cs_nil (am_cv_of (by decide +kernel))
theorem calX8_isEmpty {l : Launch} {dC : Nat → ClassId} {dI ad : Nat → Nat → Nat} {cy : Nat → ClassId} {R : Room} (h1 : rmX8_isEmpty.frames + 1 ≤ R.frames) (h2 : 8 + (1 + 11) + rmX8_isEmpty.locals ≤ R.locals) : am_Cal l dC dI ad cy R 0 0 cqX8_isEmpty fX8_isEmpty :=
  ⟨okX8_isEmpty, am_inU 773 (by decide +kernel) (by decide +kernel), Nat.le_refl _, Nat.le_refl _, h1, h2, ⟨by decide, by decide, by decide +kernel⟩, ⟨by decide, rfl⟩, Or.inl ⟨_, _, rfl⟩⟩
