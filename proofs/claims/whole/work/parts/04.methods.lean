/-! ===== what the tables say of the methods ===== -/
theorem plains : ∀ o, o < 12 → plainName (cN o) = true ∧ (cN o ≠ "java/lang/invoke/MethodHandle" ∧ cN o ≠ "java/lang/invoke/VarHandle") := by decide +kernel
theorem pars : ∀ y, y < 190 → (parseMethodDescriptor (mN y).desc).map (fun d => d.parameters.length) = some (if mK y = 1 then mA y else mA y - 1) := by decide +kernel
theorem nums : ∀ y, y < 190 → mO y < 12 ∧ mL y ≤ 13 ∧ mA y ≤ mL y ∧ mR y ≤ 2 ∧ mK y ≤ 2 ∧ (mK y ≠ 1 → 1 ≤ mA y ∧ mO y < 10) ∧ (mK y = 2 → mR y = 0) := by decide +kernel
set_option maxRecDepth 20000 in
theorem ini_0 : Cond.initialized (cN 0) ∈ wl := wl_t 7 rfl rfl
set_option maxRecDepth 20000 in
theorem ini_1 : Cond.initialized (cN 1) ∈ wl := wl_t 4 rfl rfl
set_option maxRecDepth 20000 in
theorem ini_2 : Cond.initialized (cN 2) ∈ wl := wl_t 2 rfl rfl
set_option maxRecDepth 20000 in
theorem ini_3 : Cond.initialized (cN 3) ∈ wl := wl_t 3 rfl rfl
set_option maxRecDepth 20000 in
theorem ini_4 : Cond.initialized (cN 4) ∈ wl := wl_t 8 rfl rfl
set_option maxRecDepth 20000 in
theorem ini_5 : Cond.initialized (cN 5) ∈ wl := wl_t 9 rfl rfl
set_option maxRecDepth 20000 in
theorem ini_6 : Cond.initialized (cN 6) ∈ wl := wl_t 5 rfl rfl
set_option maxRecDepth 20000 in
theorem ini_7 : Cond.initialized (cN 7) ∈ wl := wl_t 6 rfl rfl
set_option maxRecDepth 20000 in
theorem ini_8 : Cond.initialized (cN 8) ∈ wl := wl_t 1 rfl rfl
set_option maxRecDepth 20000 in
theorem ini_9 : Cond.initialized (cN 9) ∈ wl := wl_t 15 rfl rfl
set_option maxRecDepth 20000 in
theorem ini_11 : Cond.initialized (cN 11) ∈ wl := wl_t 14 rfl rfl
theorem inis : ∀ o, o < 12 → o ≠ 10 → Cond.initialized (cN o) ∈ wl := by
  intro o ho h10
  match o, ho, h10 with
  | 0, _, _ => exact ini_0
  | 1, _, _ => exact ini_1
  | 2, _, _ => exact ini_2
  | 3, _, _ => exact ini_3
  | 4, _, _ => exact ini_4
  | 5, _, _ => exact ini_5
  | 6, _, _ => exact ini_6
  | 7, _, _ => exact ini_7
  | 8, _, _ => exact ini_8
  | 9, _, _ => exact ini_9
  | 10, _, h => exact absurd rfl h
  | 11, _, _ => exact ini_11
  | o + 12, h, _ => exact absurd h (by omega)
/-- a method's words: its code; a static one's; an instance method's; which one is selected -/
def OKM (y : Nat) : Prop := Cond.code (mN y) (mB y) (mL y) (mT y) ∈ wl ∧ (mK y = 1 → Cond.static (mN y) ∈ wl) ∧ (mK y ≠ 1 → Cond.instanceMethod (mN y) ∈ wl) ∧ (mK y = 0 → Cond.selects (mN y).cls (mN y) (mN y) ∈ wl) ∧ (mK y = 2 → (mN y).name = "<init>")
set_option maxRecDepth 20000 in
theorem okm_0 : OKM 0 := ⟨wl_t 198 rfl rfl, fun h => absurd h (by decide), fun _ => wl_t 197 rfl rfl, fun h => absurd h (by decide), fun _ => rfl⟩
set_option maxRecDepth 20000 in
theorem okm_1 : OKM 1 := ⟨wl_t 704 rfl rfl, fun h => absurd h (by decide), fun _ => wl_t 702 rfl rfl, fun _ => wl_t 703 rfl rfl, fun h => absurd h (by decide)⟩
set_option maxRecDepth 20000 in
theorem okm_2 : OKM 2 := ⟨wl_t 710 rfl rfl, fun h => absurd h (by decide), fun _ => wl_t 709 rfl rfl, fun _ => wl_s 30 rfl rfl, fun h => absurd h (by decide)⟩
set_option maxRecDepth 20000 in
theorem okm_3 : OKM 3 := ⟨wl_t 732 rfl rfl, fun h => absurd h (by decide), fun _ => wl_t 730 rfl rfl, fun _ => wl_t 731 rfl rfl, fun h => absurd h (by decide)⟩
set_option maxRecDepth 20000 in
theorem okm_4 : OKM 4 := ⟨wl_t 738 rfl rfl, fun h => absurd h (by decide), fun _ => wl_t 736 rfl rfl, fun _ => wl_t 737 rfl rfl, fun h => absurd h (by decide)⟩
set_option maxRecDepth 20000 in
theorem okm_5 : OKM 5 := ⟨wl_t 136 rfl rfl, fun h => absurd h (by decide), fun _ => wl_t 135 rfl rfl, fun h => absurd h (by decide), fun _ => rfl⟩
set_option maxRecDepth 20000 in
theorem okm_6 : OKM 6 := ⟨wl_t 659 rfl rfl, fun h => absurd h (by decide), fun _ => wl_t 657 rfl rfl, fun _ => wl_t 658 rfl rfl, fun h => absurd h (by decide)⟩
set_option maxRecDepth 20000 in
theorem okm_7 : OKM 7 := ⟨wl_t 714 rfl rfl, fun h => absurd h (by decide), fun _ => wl_t 712 rfl rfl, fun _ => wl_t 713 rfl rfl, fun h => absurd h (by decide)⟩
set_option maxRecDepth 20000 in
theorem okm_8 : OKM 8 := ⟨wl_t 622 rfl rfl, fun h => absurd h (by decide), fun _ => wl_t 620 rfl rfl, fun _ => wl_t 621 rfl rfl, fun h => absurd h (by decide)⟩
set_option maxRecDepth 20000 in
theorem okm_9 : OKM 9 := ⟨wl_t 626 rfl rfl, fun h => absurd h (by decide), fun _ => wl_t 625 rfl rfl, fun _ => wl_s 24 rfl rfl, fun h => absurd h (by decide)⟩
set_option maxRecDepth 20000 in
theorem okm_10 : OKM 10 := ⟨wl_t 647 rfl rfl, fun h => absurd h (by decide), fun _ => wl_t 646 rfl rfl, fun _ => wl_s 25 rfl rfl, fun h => absurd h (by decide)⟩
set_option maxRecDepth 20000 in
theorem okm_11 : OKM 11 := ⟨wl_t 30 rfl rfl, fun h => absurd h (by decide), fun _ => wl_t 29 rfl rfl, fun h => absurd h (by decide), fun _ => rfl⟩
set_option maxRecDepth 20000 in
theorem okm_12 : OKM 12 := ⟨wl_t 341 rfl rfl, fun h => absurd h (by decide), fun _ => wl_t 339 rfl rfl, fun _ => wl_t 340 rfl rfl, fun h => absurd h (by decide)⟩
set_option maxRecDepth 20000 in
theorem okm_13 : OKM 13 := ⟨wl_t 349 rfl rfl, fun h => absurd h (by decide), fun _ => wl_t 347 rfl rfl, fun _ => wl_t 348 rfl rfl, fun h => absurd h (by decide)⟩
set_option maxRecDepth 20000 in
theorem okm_14 : OKM 14 := ⟨wl_t 360 rfl rfl, fun h => absurd h (by decide), fun _ => wl_t 359 rfl rfl, fun _ => wl_s 1 rfl rfl, fun h => absurd h (by decide)⟩
set_option maxRecDepth 20000 in
theorem okm_15 : OKM 15 := ⟨wl_t 368 rfl rfl, fun h => absurd h (by decide), fun _ => wl_t 367 rfl rfl, fun _ => wl_s 3 rfl rfl, fun h => absurd h (by decide)⟩
set_option maxRecDepth 20000 in
theorem okm_16 : OKM 16 := ⟨wl_t 376 rfl rfl, fun h => absurd h (by decide), fun _ => wl_t 375 rfl rfl, fun _ => wl_s 5 rfl rfl, fun h => absurd h (by decide)⟩
set_option maxRecDepth 20000 in
theorem okm_17 : OKM 17 := ⟨wl_t 380 rfl rfl, fun h => absurd h (by decide), fun _ => wl_t 379 rfl rfl, fun _ => wl_s 6 rfl rfl, fun h => absurd h (by decide)⟩
set_option maxRecDepth 20000 in
theorem okm_18 : OKM 18 := ⟨wl_t 395 rfl rfl, fun h => absurd h (by decide), fun _ => wl_t 394 rfl rfl, fun _ => wl_s 8 rfl rfl, fun h => absurd h (by decide)⟩
set_option maxRecDepth 20000 in
theorem okm_19 : OKM 19 := ⟨wl_t 398 rfl rfl, fun _ => wl_t 397 rfl rfl, fun h => absurd h (by decide), fun h => absurd h (by decide), fun h => absurd h (by decide)⟩
set_option maxRecDepth 20000 in
theorem okm_20 : OKM 20 := ⟨wl_t 387 rfl rfl, fun h => absurd h (by decide), fun _ => wl_t 386 rfl rfl, fun _ => wl_s 7 rfl rfl, fun h => absurd h (by decide)⟩
set_option maxRecDepth 20000 in
theorem okm_21 : OKM 21 := ⟨wl_t 372 rfl rfl, fun h => absurd h (by decide), fun _ => wl_t 371 rfl rfl, fun _ => wl_s 4 rfl rfl, fun h => absurd h (by decide)⟩
set_option maxRecDepth 20000 in
theorem okm_22 : OKM 22 := ⟨wl_t 364 rfl rfl, fun h => absurd h (by decide), fun _ => wl_t 363 rfl rfl, fun _ => wl_s 2 rfl rfl, fun h => absurd h (by decide)⟩
set_option maxRecDepth 20000 in
theorem okm_23 : OKM 23 := ⟨wl_t 52 rfl rfl, fun h => absurd h (by decide), fun _ => wl_t 51 rfl rfl, fun h => absurd h (by decide), fun _ => rfl⟩
set_option maxRecDepth 20000 in
theorem okm_24 : OKM 24 := ⟨wl_t 406 rfl rfl, fun h => absurd h (by decide), fun _ => wl_t 404 rfl rfl, fun _ => wl_t 405 rfl rfl, fun h => absurd h (by decide)⟩
set_option maxRecDepth 20000 in
theorem okm_25 : OKM 25 := ⟨wl_t 410 rfl rfl, fun h => absurd h (by decide), fun _ => wl_t 409 rfl rfl, fun _ => wl_s 9 rfl rfl, fun h => absurd h (by decide)⟩
set_option maxRecDepth 20000 in
theorem okm_26 : OKM 26 := ⟨wl_t 414 rfl rfl, fun h => absurd h (by decide), fun _ => wl_t 413 rfl rfl, fun _ => wl_s 10 rfl rfl, fun h => absurd h (by decide)⟩
set_option maxRecDepth 20000 in
theorem okm_27 : OKM 27 := ⟨wl_t 418 rfl rfl, fun h => absurd h (by decide), fun _ => wl_t 417 rfl rfl, fun _ => wl_s 11 rfl rfl, fun h => absurd h (by decide)⟩
set_option maxRecDepth 20000 in
theorem okm_28 : OKM 28 := ⟨wl_t 422 rfl rfl, fun h => absurd h (by decide), fun _ => wl_t 421 rfl rfl, fun _ => wl_s 12 rfl rfl, fun h => absurd h (by decide)⟩
set_option maxRecDepth 20000 in
theorem okm_29 : OKM 29 := ⟨wl_t 426 rfl rfl, fun h => absurd h (by decide), fun _ => wl_t 424 rfl rfl, fun _ => wl_t 425 rfl rfl, fun h => absurd h (by decide)⟩
set_option maxRecDepth 20000 in
theorem okm_30 : OKM 30 := ⟨wl_t 430 rfl rfl, fun h => absurd h (by decide), fun _ => wl_t 428 rfl rfl, fun _ => wl_t 429 rfl rfl, fun h => absurd h (by decide)⟩
set_option maxRecDepth 20000 in
theorem okm_31 : OKM 31 := ⟨wl_t 638 rfl rfl, fun h => absurd h (by decide), fun _ => wl_t 636 rfl rfl, fun _ => wl_t 637 rfl rfl, fun h => absurd h (by decide)⟩
set_option maxRecDepth 20000 in
theorem okm_32 : OKM 32 := ⟨wl_t 630 rfl rfl, fun h => absurd h (by decide), fun _ => wl_t 628 rfl rfl, fun _ => wl_t 629 rfl rfl, fun h => absurd h (by decide)⟩
set_option maxRecDepth 20000 in
theorem okm_33 : OKM 33 := ⟨wl_t 634 rfl rfl, fun h => absurd h (by decide), fun _ => wl_t 632 rfl rfl, fun _ => wl_t 633 rfl rfl, fun h => absurd h (by decide)⟩
set_option maxRecDepth 20000 in
theorem okm_34 : OKM 34 := ⟨wl_t 664 rfl rfl, fun h => absurd h (by decide), fun _ => wl_t 662 rfl rfl, fun _ => wl_t 663 rfl rfl, fun h => absurd h (by decide)⟩
set_option maxRecDepth 20000 in
theorem okm_35 : OKM 35 := ⟨wl_t 223 rfl rfl, fun h => absurd h (by decide), fun _ => wl_t 222 rfl rfl, fun h => absurd h (by decide), fun _ => rfl⟩
set_option maxRecDepth 20000 in
theorem okm_36 : OKM 36 := ⟨wl_t 767 rfl rfl, fun h => absurd h (by decide), fun _ => wl_t 765 rfl rfl, fun _ => wl_t 766 rfl rfl, fun h => absurd h (by decide)⟩
set_option maxRecDepth 20000 in
theorem okm_37 : OKM 37 := ⟨wl_t 772 rfl rfl, fun h => absurd h (by decide), fun _ => wl_t 770 rfl rfl, fun _ => wl_t 771 rfl rfl, fun h => absurd h (by decide)⟩
set_option maxRecDepth 20000 in
theorem okm_38 : OKM 38 := ⟨wl_t 781 rfl rfl, fun h => absurd h (by decide), fun _ => wl_t 780 rfl rfl, fun _ => wl_s 33 rfl rfl, fun h => absurd h (by decide)⟩
set_option maxRecDepth 20000 in
theorem okm_39 : OKM 39 := ⟨wl_t 776 rfl rfl, fun h => absurd h (by decide), fun _ => wl_t 775 rfl rfl, fun _ => wl_s 32 rfl rfl, fun h => absurd h (by decide)⟩
set_option maxRecDepth 20000 in
theorem okm_40 : OKM 40 := ⟨wl_t 786 rfl rfl, fun h => absurd h (by decide), fun _ => wl_t 784 rfl rfl, fun _ => wl_t 785 rfl rfl, fun h => absurd h (by decide)⟩
set_option maxRecDepth 20000 in
theorem okm_41 : OKM 41 := ⟨wl_t 790 rfl rfl, fun h => absurd h (by decide), fun _ => wl_t 788 rfl rfl, fun _ => wl_t 789 rfl rfl, fun h => absurd h (by decide)⟩
set_option maxRecDepth 20000 in
theorem okm_42 : OKM 42 := ⟨wl_t 808 rfl rfl, fun h => absurd h (by decide), fun _ => wl_t 806 rfl rfl, fun _ => wl_t 807 rfl rfl, fun h => absurd h (by decide)⟩
set_option maxRecDepth 20000 in
theorem okm_43 : OKM 43 := ⟨wl_t 800 rfl rfl, fun h => absurd h (by decide), fun _ => wl_t 798 rfl rfl, fun _ => wl_t 799 rfl rfl, fun h => absurd h (by decide)⟩
set_option maxRecDepth 20000 in
theorem okm_44 : OKM 44 := ⟨wl_t 823 rfl rfl, fun h => absurd h (by decide), fun _ => wl_t 821 rfl rfl, fun _ => wl_t 822 rfl rfl, fun h => absurd h (by decide)⟩
set_option maxRecDepth 20000 in
theorem okm_45 : OKM 45 := ⟨wl_t 246 rfl rfl, fun h => absurd h (by decide), fun _ => wl_t 245 rfl rfl, fun h => absurd h (by decide), fun _ => rfl⟩
set_option maxRecDepth 20000 in
theorem okm_46 : OKM 46 := ⟨wl_t 434 rfl rfl, fun h => absurd h (by decide), fun _ => wl_t 432 rfl rfl, fun _ => wl_t 433 rfl rfl, fun h => absurd h (by decide)⟩
set_option maxRecDepth 20000 in
theorem okm_47 : OKM 47 := ⟨wl_t 353 rfl rfl, fun h => absurd h (by decide), fun _ => wl_t 351 rfl rfl, fun _ => wl_t 352 rfl rfl, fun h => absurd h (by decide)⟩
set_option maxRecDepth 20000 in
theorem okm_48 : OKM 48 := ⟨wl_t 534 rfl rfl, fun h => absurd h (by decide), fun _ => wl_t 532 rfl rfl, fun _ => wl_t 533 rfl rfl, fun h => absurd h (by decide)⟩
set_option maxRecDepth 20000 in
theorem okm_49 : OKM 49 := ⟨wl_t 402 rfl rfl, fun h => absurd h (by decide), fun _ => wl_t 400 rfl rfl, fun _ => wl_t 401 rfl rfl, fun h => absurd h (by decide)⟩
set_option maxRecDepth 20000 in
theorem okm_50 : OKM 50 := ⟨wl_t 584 rfl rfl, fun h => absurd h (by decide), fun _ => wl_t 582 rfl rfl, fun _ => wl_t 583 rfl rfl, fun h => absurd h (by decide)⟩
set_option maxRecDepth 20000 in
theorem okm_51 : OKM 51 := ⟨wl_t 597 rfl rfl, fun h => absurd h (by decide), fun _ => wl_t 595 rfl rfl, fun _ => wl_t 596 rfl rfl, fun h => absurd h (by decide)⟩
set_option maxRecDepth 20000 in
theorem okm_52 : OKM 52 := ⟨wl_t 642 rfl rfl, fun h => absurd h (by decide), fun _ => wl_t 640 rfl rfl, fun _ => wl_t 641 rfl rfl, fun h => absurd h (by decide)⟩
set_option maxRecDepth 20000 in
theorem okm_53 : OKM 53 := ⟨wl_t 545 rfl rfl, fun h => absurd h (by decide), fun _ => wl_t 543 rfl rfl, fun _ => wl_t 544 rfl rfl, fun h => absurd h (by decide)⟩
set_option maxRecDepth 20000 in
theorem okm_54 : OKM 54 := ⟨wl_t 438 rfl rfl, fun h => absurd h (by decide), fun _ => wl_t 436 rfl rfl, fun _ => wl_t 437 rfl rfl, fun h => absurd h (by decide)⟩
set_option maxRecDepth 20000 in
theorem okm_55 : OKM 55 := ⟨wl_t 576 rfl rfl, fun h => absurd h (by decide), fun _ => wl_t 574 rfl rfl, fun _ => wl_t 575 rfl rfl, fun h => absurd h (by decide)⟩
set_option maxRecDepth 20000 in
theorem okm_56 : OKM 56 := ⟨wl_t 391 rfl rfl, fun h => absurd h (by decide), fun _ => wl_t 389 rfl rfl, fun _ => wl_t 390 rfl rfl, fun h => absurd h (by decide)⟩
set_option maxRecDepth 20000 in
theorem okm_57 : OKM 57 := ⟨wl_t 755 rfl rfl, fun h => absurd h (by decide), fun _ => wl_t 753 rfl rfl, fun _ => wl_t 754 rfl rfl, fun h => absurd h (by decide)⟩
set_option maxRecDepth 20000 in
theorem okm_58 : OKM 58 := ⟨wl_t 167 rfl rfl, fun h => absurd h (by decide), fun _ => wl_t 166 rfl rfl, fun h => absurd h (by decide), fun _ => rfl⟩
set_option maxRecDepth 20000 in
theorem okm_59 : OKM 59 := ⟨wl_t 572 rfl rfl, fun h => absurd h (by decide), fun _ => wl_t 570 rfl rfl, fun _ => wl_t 571 rfl rfl, fun h => absurd h (by decide)⟩
set_option maxRecDepth 20000 in
theorem okm_60 : OKM 60 := ⟨wl_t 580 rfl rfl, fun h => absurd h (by decide), fun _ => wl_t 579 rfl rfl, fun _ => wl_s 21 rfl rfl, fun h => absurd h (by decide)⟩
set_option maxRecDepth 20000 in
theorem okm_61 : OKM 61 := ⟨wl_t 180 rfl rfl, fun h => absurd h (by decide), fun _ => wl_t 179 rfl rfl, fun h => absurd h (by decide), fun _ => rfl⟩
set_option maxRecDepth 20000 in
theorem okm_62 : OKM 62 := ⟨wl_t 676 rfl rfl, fun h => absurd h (by decide), fun _ => wl_t 674 rfl rfl, fun _ => wl_t 675 rfl rfl, fun h => absurd h (by decide)⟩
set_option maxRecDepth 20000 in
theorem okm_63 : OKM 63 := ⟨wl_t 686 rfl rfl, fun h => absurd h (by decide), fun _ => wl_t 685 rfl rfl, fun _ => wl_s 28 rfl rfl, fun h => absurd h (by decide)⟩
set_option maxRecDepth 20000 in
theorem okm_64 : OKM 64 := ⟨wl_t 681 rfl rfl, fun h => absurd h (by decide), fun _ => wl_t 680 rfl rfl, fun _ => wl_s 27 rfl rfl, fun h => absurd h (by decide)⟩
set_option maxRecDepth 20000 in
theorem okm_65 : OKM 65 := ⟨wl_t 700 rfl rfl, fun h => absurd h (by decide), fun _ => wl_t 699 rfl rfl, fun _ => wl_s 29 rfl rfl, fun h => absurd h (by decide)⟩
set_option maxRecDepth 20000 in
theorem okm_66 : OKM 66 := ⟨wl_t 695 rfl rfl, fun h => absurd h (by decide), fun _ => wl_t 693 rfl rfl, fun _ => wl_t 694 rfl rfl, fun h => absurd h (by decide)⟩
set_option maxRecDepth 20000 in
theorem okm_67 : OKM 67 := ⟨wl_t 718 rfl rfl, fun h => absurd h (by decide), fun _ => wl_t 716 rfl rfl, fun _ => wl_t 717 rfl rfl, fun h => absurd h (by decide)⟩
set_option maxRecDepth 20000 in
theorem okm_68 : OKM 68 := ⟨wl_t 22 rfl rfl, fun h => absurd h (by decide), fun _ => wl_t 21 rfl rfl, fun h => absurd h (by decide), fun _ => rfl⟩
set_option maxRecDepth 20000 in
theorem okm_69 : OKM 69 := ⟨wl_t 480 rfl rfl, fun h => absurd h (by decide), fun _ => wl_t 478 rfl rfl, fun _ => wl_t 479 rfl rfl, fun h => absurd h (by decide)⟩
set_option maxRecDepth 20000 in
theorem okm_70 : OKM 70 := ⟨wl_t 484 rfl rfl, fun h => absurd h (by decide), fun _ => wl_t 482 rfl rfl, fun _ => wl_t 483 rfl rfl, fun h => absurd h (by decide)⟩
set_option maxRecDepth 20000 in
theorem okm_71 : OKM 71 := ⟨wl_t 488 rfl rfl, fun h => absurd h (by decide), fun _ => wl_t 486 rfl rfl, fun _ => wl_t 487 rfl rfl, fun h => absurd h (by decide)⟩
set_option maxRecDepth 20000 in
theorem okm_72 : OKM 72 := ⟨wl_t 492 rfl rfl, fun h => absurd h (by decide), fun _ => wl_t 490 rfl rfl, fun _ => wl_t 491 rfl rfl, fun h => absurd h (by decide)⟩
set_option maxRecDepth 20000 in
theorem okm_73 : OKM 73 := ⟨wl_t 496 rfl rfl, fun h => absurd h (by decide), fun _ => wl_t 494 rfl rfl, fun _ => wl_t 495 rfl rfl, fun h => absurd h (by decide)⟩
set_option maxRecDepth 20000 in
theorem okm_74 : OKM 74 := ⟨wl_t 501 rfl rfl, fun h => absurd h (by decide), fun _ => wl_t 499 rfl rfl, fun _ => wl_t 500 rfl rfl, fun h => absurd h (by decide)⟩
set_option maxRecDepth 20000 in
theorem okm_75 : OKM 75 := ⟨wl_t 518 rfl rfl, fun h => absurd h (by decide), fun _ => wl_t 516 rfl rfl, fun _ => wl_t 517 rfl rfl, fun h => absurd h (by decide)⟩
set_option maxRecDepth 20000 in
theorem okm_76 : OKM 76 := ⟨wl_t 526 rfl rfl, fun h => absurd h (by decide), fun _ => wl_t 524 rfl rfl, fun _ => wl_t 525 rfl rfl, fun h => absurd h (by decide)⟩
set_option maxRecDepth 20000 in
theorem okm_77 : OKM 77 := ⟨wl_t 556 rfl rfl, fun h => absurd h (by decide), fun _ => wl_t 554 rfl rfl, fun _ => wl_t 555 rfl rfl, fun h => absurd h (by decide)⟩
set_option maxRecDepth 20000 in
theorem okm_78 : OKM 78 := ⟨wl_t 564 rfl rfl, fun h => absurd h (by decide), fun _ => wl_t 562 rfl rfl, fun _ => wl_t 563 rfl rfl, fun h => absurd h (by decide)⟩
set_option maxRecDepth 20000 in
theorem okm_79 : OKM 79 := ⟨wl_t 568 rfl rfl, fun h => absurd h (by decide), fun _ => wl_t 566 rfl rfl, fun _ => wl_t 567 rfl rfl, fun h => absurd h (by decide)⟩
set_option maxRecDepth 20000 in
theorem okm_80 : OKM 80 := ⟨wl_t 593 rfl rfl, fun h => absurd h (by decide), fun _ => wl_t 591 rfl rfl, fun _ => wl_t 592 rfl rfl, fun h => absurd h (by decide)⟩
set_option maxRecDepth 20000 in
theorem okm_81 : OKM 81 := ⟨wl_t 601 rfl rfl, fun h => absurd h (by decide), fun _ => wl_t 599 rfl rfl, fun _ => wl_t 600 rfl rfl, fun h => absurd h (by decide)⟩
set_option maxRecDepth 20000 in
theorem okm_82 : OKM 82 := ⟨wl_t 606 rfl rfl, fun h => absurd h (by decide), fun _ => wl_t 604 rfl rfl, fun _ => wl_t 605 rfl rfl, fun h => absurd h (by decide)⟩
set_option maxRecDepth 20000 in
theorem okm_83 : OKM 83 := ⟨wl_t 610 rfl rfl, fun h => absurd h (by decide), fun _ => wl_t 608 rfl rfl, fun _ => wl_t 609 rfl rfl, fun h => absurd h (by decide)⟩
set_option maxRecDepth 20000 in
theorem okm_84 : OKM 84 := ⟨wl_t 651 rfl rfl, fun h => absurd h (by decide), fun _ => wl_t 649 rfl rfl, fun _ => wl_t 650 rfl rfl, fun h => absurd h (by decide)⟩
set_option maxRecDepth 20000 in
theorem okm_85 : OKM 85 := ⟨wl_t 668 rfl rfl, fun h => absurd h (by decide), fun _ => wl_t 666 rfl rfl, fun _ => wl_t 667 rfl rfl, fun h => absurd h (by decide)⟩
set_option maxRecDepth 20000 in
theorem okm_86 : OKM 86 := ⟨wl_t 672 rfl rfl, fun h => absurd h (by decide), fun _ => wl_t 670 rfl rfl, fun _ => wl_t 671 rfl rfl, fun h => absurd h (by decide)⟩
set_option maxRecDepth 20000 in
theorem okm_87 : OKM 87 := ⟨wl_t 691 rfl rfl, fun h => absurd h (by decide), fun _ => wl_t 689 rfl rfl, fun _ => wl_t 690 rfl rfl, fun h => absurd h (by decide)⟩
set_option maxRecDepth 20000 in
theorem okm_88 : OKM 88 := ⟨wl_t 724 rfl rfl, fun h => absurd h (by decide), fun _ => wl_t 722 rfl rfl, fun _ => wl_t 723 rfl rfl, fun h => absurd h (by decide)⟩
set_option maxRecDepth 20000 in
theorem okm_89 : OKM 89 := ⟨wl_t 728 rfl rfl, fun h => absurd h (by decide), fun _ => wl_t 726 rfl rfl, fun _ => wl_t 727 rfl rfl, fun h => absurd h (by decide)⟩
set_option maxRecDepth 20000 in
theorem okm_90 : OKM 90 := ⟨wl_t 742 rfl rfl, fun h => absurd h (by decide), fun _ => wl_t 740 rfl rfl, fun _ => wl_t 741 rfl rfl, fun h => absurd h (by decide)⟩
set_option maxRecDepth 20000 in
theorem okm_91 : OKM 91 := ⟨wl_t 747 rfl rfl, fun h => absurd h (by decide), fun _ => wl_t 745 rfl rfl, fun _ => wl_t 746 rfl rfl, fun h => absurd h (by decide)⟩
set_option maxRecDepth 20000 in
theorem okm_92 : OKM 92 := ⟨wl_t 759 rfl rfl, fun h => absurd h (by decide), fun _ => wl_t 757 rfl rfl, fun _ => wl_t 758 rfl rfl, fun h => absurd h (by decide)⟩
set_option maxRecDepth 20000 in
theorem okm_93 : OKM 93 := ⟨wl_t 763 rfl rfl, fun h => absurd h (by decide), fun _ => wl_t 761 rfl rfl, fun _ => wl_t 762 rfl rfl, fun h => absurd h (by decide)⟩
set_option maxRecDepth 20000 in
theorem okm_94 : OKM 94 := ⟨wl_t 796 rfl rfl, fun h => absurd h (by decide), fun _ => wl_t 794 rfl rfl, fun _ => wl_t 795 rfl rfl, fun h => absurd h (by decide)⟩
set_option maxRecDepth 20000 in
theorem okm_95 : OKM 95 := ⟨wl_t 804 rfl rfl, fun h => absurd h (by decide), fun _ => wl_t 802 rfl rfl, fun _ => wl_t 803 rfl rfl, fun h => absurd h (by decide)⟩
set_option maxRecDepth 20000 in
theorem okm_96 : OKM 96 := ⟨wl_t 814 rfl rfl, fun h => absurd h (by decide), fun _ => wl_t 812 rfl rfl, fun _ => wl_t 813 rfl rfl, fun h => absurd h (by decide)⟩
set_option maxRecDepth 20000 in
theorem okm_97 : OKM 97 := ⟨wl_t 819 rfl rfl, fun h => absurd h (by decide), fun _ => wl_t 817 rfl rfl, fun _ => wl_t 818 rfl rfl, fun h => absurd h (by decide)⟩
set_option maxRecDepth 20000 in
theorem okm_98 : OKM 98 := ⟨wl_t 828 rfl rfl, fun h => absurd h (by decide), fun _ => wl_t 826 rfl rfl, fun _ => wl_t 827 rfl rfl, fun h => absurd h (by decide)⟩
set_option maxRecDepth 20000 in
theorem okm_99 : OKM 99 := ⟨wl_t 505 rfl rfl, fun h => absurd h (by decide), fun _ => wl_t 504 rfl rfl, fun _ => wl_s 13 rfl rfl, fun h => absurd h (by decide)⟩
set_option maxRecDepth 20000 in
theorem okm_100 : OKM 100 := ⟨wl_t 522 rfl rfl, fun h => absurd h (by decide), fun _ => wl_t 521 rfl rfl, fun _ => wl_s 16 rfl rfl, fun h => absurd h (by decide)⟩
set_option maxRecDepth 20000 in
theorem okm_101 : OKM 101 := ⟨wl_t 614 rfl rfl, fun h => absurd h (by decide), fun _ => wl_t 613 rfl rfl, fun _ => wl_s 22 rfl rfl, fun h => absurd h (by decide)⟩
set_option maxRecDepth 20000 in
theorem okm_102 : OKM 102 := ⟨wl_t 655 rfl rfl, fun h => absurd h (by decide), fun _ => wl_t 654 rfl rfl, fun _ => wl_s 26 rfl rfl, fun h => absurd h (by decide)⟩
set_option maxRecDepth 20000 in
theorem okm_103 : OKM 103 := ⟨wl_t 618 rfl rfl, fun h => absurd h (by decide), fun _ => wl_t 617 rfl rfl, fun _ => wl_s 23 rfl rfl, fun h => absurd h (by decide)⟩
set_option maxRecDepth 20000 in
theorem okm_104 : OKM 104 := ⟨wl_t 751 rfl rfl, fun h => absurd h (by decide), fun _ => wl_t 750 rfl rfl, fun _ => wl_s 31 rfl rfl, fun h => absurd h (by decide)⟩
set_option maxRecDepth 20000 in
theorem okm_105 : OKM 105 := ⟨wl_t 383 rfl rfl, fun _ => wl_t 382 rfl rfl, fun h => absurd h (by decide), fun h => absurd h (by decide), fun h => absurd h (by decide)⟩
set_option maxRecDepth 20000 in
theorem okm_106 : OKM 106 := ⟨wl_t 345 rfl rfl, fun h => absurd h (by decide), fun _ => wl_t 344 rfl rfl, fun _ => wl_s 0 rfl rfl, fun h => absurd h (by decide)⟩
set_option maxRecDepth 20000 in
theorem okm_107 : OKM 107 := ⟨wl_t 530 rfl rfl, fun h => absurd h (by decide), fun _ => wl_t 529 rfl rfl, fun _ => wl_s 17 rfl rfl, fun h => absurd h (by decide)⟩
set_option maxRecDepth 20000 in
theorem okm_108 : OKM 108 := ⟨wl_t 549 rfl rfl, fun h => absurd h (by decide), fun _ => wl_t 548 rfl rfl, fun _ => wl_s 19 rfl rfl, fun h => absurd h (by decide)⟩
set_option maxRecDepth 20000 in
theorem okm_109 : OKM 109 := ⟨wl_t 541 rfl rfl, fun h => absurd h (by decide), fun _ => wl_t 540 rfl rfl, fun _ => wl_s 18 rfl rfl, fun h => absurd h (by decide)⟩
set_option maxRecDepth 20000 in
theorem okm_110 : OKM 110 := ⟨wl_t 513 rfl rfl, fun h => absurd h (by decide), fun _ => wl_t 512 rfl rfl, fun _ => wl_s 15 rfl rfl, fun h => absurd h (by decide)⟩
set_option maxRecDepth 20000 in
theorem okm_111 : OKM 111 := ⟨wl_t 509 rfl rfl, fun h => absurd h (by decide), fun _ => wl_t 508 rfl rfl, fun _ => wl_s 14 rfl rfl, fun h => absurd h (by decide)⟩
set_option maxRecDepth 20000 in
theorem okm_112 : OKM 112 := ⟨wl_t 560 rfl rfl, fun h => absurd h (by decide), fun _ => wl_t 559 rfl rfl, fun _ => wl_s 20 rfl rfl, fun h => absurd h (by decide)⟩
set_option maxRecDepth 20000 in
theorem okm_113 : OKM 113 := ⟨wl_t 832 rfl rfl, fun h => absurd h (by decide), fun _ => wl_t 831 rfl rfl, fun _ => wl_s 34 rfl rfl, fun h => absurd h (by decide)⟩
set_option maxRecDepth 20000 in
theorem okm_114 : OKM 114 := ⟨wl_t 837 rfl rfl, fun h => absurd h (by decide), fun _ => wl_t 836 rfl rfl, fun h => absurd h (by decide), fun _ => rfl⟩
set_option maxRecDepth 20000 in
theorem okm_115 : OKM 115 := ⟨wl_t 842 rfl rfl, fun h => absurd h (by decide), fun _ => wl_t 841 rfl rfl, fun _ => wl_s 35 rfl rfl, fun h => absurd h (by decide)⟩
set_option maxRecDepth 20000 in
theorem okm_116 : OKM 116 := ⟨wl_t 846 rfl rfl, fun h => absurd h (by decide), fun _ => wl_t 845 rfl rfl, fun _ => wl_s 36 rfl rfl, fun h => absurd h (by decide)⟩
set_option maxRecDepth 20000 in
theorem okm_117 : OKM 117 := ⟨wl_t 976 rfl rfl, fun _ => wl_t 975 rfl rfl, fun h => absurd h (by decide), fun h => absurd h (by decide), fun h => absurd h (by decide)⟩
set_option maxRecDepth 20000 in
theorem okm_118 : OKM 118 := ⟨wl_t 965 rfl rfl, fun h => absurd h (by decide), fun _ => wl_t 964 rfl rfl, fun _ => wl_s 40 rfl rfl, fun h => absurd h (by decide)⟩
set_option maxRecDepth 20000 in
theorem okm_119 : OKM 119 := ⟨wl_t 961 rfl rfl, fun h => absurd h (by decide), fun _ => wl_t 960 rfl rfl, fun _ => wl_s 39 rfl rfl, fun h => absurd h (by decide)⟩
set_option maxRecDepth 20000 in
theorem okm_120 : OKM 120 := ⟨wl_t 980 rfl rfl, fun h => absurd h (by decide), fun _ => wl_t 979 rfl rfl, fun _ => wl_s 43 rfl rfl, fun h => absurd h (by decide)⟩
set_option maxRecDepth 20000 in
theorem okm_121 : OKM 121 := ⟨wl_t 973 rfl rfl, fun h => absurd h (by decide), fun _ => wl_t 972 rfl rfl, fun _ => wl_s 42 rfl rfl, fun h => absurd h (by decide)⟩
set_option maxRecDepth 20000 in
theorem okm_122 : OKM 122 := ⟨wl_t 969 rfl rfl, fun h => absurd h (by decide), fun _ => wl_t 968 rfl rfl, fun _ => wl_s 41 rfl rfl, fun h => absurd h (by decide)⟩
set_option maxRecDepth 20000 in
theorem okm_123 : OKM 123 := ⟨wl_t 957 rfl rfl, fun h => absurd h (by decide), fun _ => wl_t 956 rfl rfl, fun _ => wl_s 38 rfl rfl, fun h => absurd h (by decide)⟩
set_option maxRecDepth 20000 in
theorem okm_124 : OKM 124 := ⟨wl_t 953 rfl rfl, fun h => absurd h (by decide), fun _ => wl_t 952 rfl rfl, fun _ => wl_s 37 rfl rfl, fun h => absurd h (by decide)⟩
set_option maxRecDepth 20000 in
theorem okm_125 : OKM 125 := ⟨wl_t 941 rfl rfl, fun h => absurd h (by decide), fun _ => wl_t 939 rfl rfl, fun _ => wl_t 940 rfl rfl, fun h => absurd h (by decide)⟩
set_option maxRecDepth 20000 in
theorem okm_126 : OKM 126 := ⟨wl_t 945 rfl rfl, fun h => absurd h (by decide), fun _ => wl_t 943 rfl rfl, fun _ => wl_t 944 rfl rfl, fun h => absurd h (by decide)⟩
set_option maxRecDepth 20000 in
theorem okm_127 : OKM 127 := ⟨wl_t 949 rfl rfl, fun h => absurd h (by decide), fun _ => wl_t 947 rfl rfl, fun _ => wl_t 948 rfl rfl, fun h => absurd h (by decide)⟩
set_option maxRecDepth 20000 in
theorem okm_128 : OKM 128 := ⟨wl_t 984 rfl rfl, fun h => absurd h (by decide), fun _ => wl_t 982 rfl rfl, fun _ => wl_t 983 rfl rfl, fun h => absurd h (by decide)⟩
set_option maxRecDepth 20000 in
theorem okm_129 : OKM 129 := ⟨wl_t 988 rfl rfl, fun h => absurd h (by decide), fun _ => wl_t 987 rfl rfl, fun _ => wl_s 44 rfl rfl, fun h => absurd h (by decide)⟩
set_option maxRecDepth 20000 in
theorem okm_130 : OKM 130 := ⟨wl_t 1012 rfl rfl, fun h => absurd h (by decide), fun _ => wl_t 1011 rfl rfl, fun _ => wl_s 48 rfl rfl, fun h => absurd h (by decide)⟩
set_option maxRecDepth 20000 in
theorem okm_131 : OKM 131 := ⟨wl_t 1004 rfl rfl, fun h => absurd h (by decide), fun _ => wl_t 1003 rfl rfl, fun _ => wl_s 46 rfl rfl, fun h => absurd h (by decide)⟩
set_option maxRecDepth 20000 in
theorem okm_132 : OKM 132 := ⟨wl_t 1016 rfl rfl, fun h => absurd h (by decide), fun _ => wl_t 1015 rfl rfl, fun _ => wl_s 49 rfl rfl, fun h => absurd h (by decide)⟩
set_option maxRecDepth 20000 in
theorem okm_133 : OKM 133 := ⟨wl_t 1092 rfl rfl, fun h => absurd h (by decide), fun _ => wl_t 1091 rfl rfl, fun _ => wl_s 59 rfl rfl, fun h => absurd h (by decide)⟩
set_option maxRecDepth 20000 in
theorem okm_134 : OKM 134 := ⟨wl_t 1000 rfl rfl, fun h => absurd h (by decide), fun _ => wl_t 999 rfl rfl, fun _ => wl_s 45 rfl rfl, fun h => absurd h (by decide)⟩
set_option maxRecDepth 20000 in
theorem okm_135 : OKM 135 := ⟨wl_t 1040 rfl rfl, fun h => absurd h (by decide), fun _ => wl_t 1039 rfl rfl, fun _ => wl_s 54 rfl rfl, fun h => absurd h (by decide)⟩
set_option maxRecDepth 20000 in
theorem okm_136 : OKM 136 := ⟨wl_t 1096 rfl rfl, fun h => absurd h (by decide), fun _ => wl_t 1095 rfl rfl, fun _ => wl_s 60 rfl rfl, fun h => absurd h (by decide)⟩
set_option maxRecDepth 20000 in
theorem okm_137 : OKM 137 := ⟨wl_t 1008 rfl rfl, fun h => absurd h (by decide), fun _ => wl_t 1007 rfl rfl, fun _ => wl_s 47 rfl rfl, fun h => absurd h (by decide)⟩
set_option maxRecDepth 20000 in
theorem okm_138 : OKM 138 := ⟨wl_t 1108 rfl rfl, fun h => absurd h (by decide), fun _ => wl_t 1107 rfl rfl, fun _ => wl_s 63 rfl rfl, fun h => absurd h (by decide)⟩
set_option maxRecDepth 20000 in
theorem okm_139 : OKM 139 := ⟨wl_t 1116 rfl rfl, fun h => absurd h (by decide), fun _ => wl_t 1115 rfl rfl, fun _ => wl_s 65 rfl rfl, fun h => absurd h (by decide)⟩
set_option maxRecDepth 20000 in
theorem okm_140 : OKM 140 := ⟨wl_t 1024 rfl rfl, fun h => absurd h (by decide), fun _ => wl_t 1023 rfl rfl, fun _ => wl_s 51 rfl rfl, fun h => absurd h (by decide)⟩
set_option maxRecDepth 20000 in
theorem okm_141 : OKM 141 := ⟨wl_t 1028 rfl rfl, fun h => absurd h (by decide), fun _ => wl_t 1027 rfl rfl, fun _ => wl_s 52 rfl rfl, fun h => absurd h (by decide)⟩
set_option maxRecDepth 20000 in
theorem okm_142 : OKM 142 := ⟨wl_t 1032 rfl rfl, fun h => absurd h (by decide), fun _ => wl_t 1031 rfl rfl, fun _ => wl_s 53 rfl rfl, fun h => absurd h (by decide)⟩
set_option maxRecDepth 20000 in
theorem okm_143 : OKM 143 := ⟨wl_t 1020 rfl rfl, fun h => absurd h (by decide), fun _ => wl_t 1019 rfl rfl, fun _ => wl_s 50 rfl rfl, fun h => absurd h (by decide)⟩
set_option maxRecDepth 20000 in
theorem okm_144 : OKM 144 := ⟨wl_t 992 rfl rfl, fun h => absurd h (by decide), fun _ => wl_t 990 rfl rfl, fun _ => wl_t 991 rfl rfl, fun h => absurd h (by decide)⟩
set_option maxRecDepth 20000 in
theorem okm_145 : OKM 145 := ⟨wl_t 996 rfl rfl, fun h => absurd h (by decide), fun _ => wl_t 994 rfl rfl, fun _ => wl_t 995 rfl rfl, fun h => absurd h (by decide)⟩
set_option maxRecDepth 20000 in
theorem okm_146 : OKM 146 := ⟨wl_t 1036 rfl rfl, fun h => absurd h (by decide), fun _ => wl_t 1034 rfl rfl, fun _ => wl_t 1035 rfl rfl, fun h => absurd h (by decide)⟩
set_option maxRecDepth 20000 in
theorem okm_147 : OKM 147 := ⟨wl_t 1052 rfl rfl, fun h => absurd h (by decide), fun _ => wl_t 1051 rfl rfl, fun _ => wl_s 55 rfl rfl, fun h => absurd h (by decide)⟩
set_option maxRecDepth 20000 in
theorem okm_148 : OKM 148 := ⟨wl_t 1044 rfl rfl, fun h => absurd h (by decide), fun _ => wl_t 1042 rfl rfl, fun _ => wl_t 1043 rfl rfl, fun h => absurd h (by decide)⟩
set_option maxRecDepth 20000 in
theorem okm_149 : OKM 149 := ⟨wl_t 1056 rfl rfl, fun h => absurd h (by decide), fun _ => wl_t 1055 rfl rfl, fun _ => wl_s 56 rfl rfl, fun h => absurd h (by decide)⟩
set_option maxRecDepth 20000 in
theorem okm_150 : OKM 150 := ⟨wl_t 1048 rfl rfl, fun h => absurd h (by decide), fun _ => wl_t 1046 rfl rfl, fun _ => wl_t 1047 rfl rfl, fun h => absurd h (by decide)⟩
set_option maxRecDepth 20000 in
theorem okm_151 : OKM 151 := ⟨wl_t 1064 rfl rfl, fun h => absurd h (by decide), fun _ => wl_t 1063 rfl rfl, fun _ => wl_s 57 rfl rfl, fun h => absurd h (by decide)⟩
set_option maxRecDepth 20000 in
theorem okm_152 : OKM 152 := ⟨wl_t 1060 rfl rfl, fun h => absurd h (by decide), fun _ => wl_t 1058 rfl rfl, fun _ => wl_t 1059 rfl rfl, fun h => absurd h (by decide)⟩
set_option maxRecDepth 20000 in
theorem okm_153 : OKM 153 := ⟨wl_t 1068 rfl rfl, fun h => absurd h (by decide), fun _ => wl_t 1066 rfl rfl, fun _ => wl_t 1067 rfl rfl, fun h => absurd h (by decide)⟩
set_option maxRecDepth 20000 in
theorem okm_154 : OKM 154 := ⟨wl_t 1076 rfl rfl, fun h => absurd h (by decide), fun _ => wl_t 1075 rfl rfl, fun _ => wl_s 58 rfl rfl, fun h => absurd h (by decide)⟩
set_option maxRecDepth 20000 in
theorem okm_155 : OKM 155 := ⟨wl_t 1072 rfl rfl, fun h => absurd h (by decide), fun _ => wl_t 1070 rfl rfl, fun _ => wl_t 1071 rfl rfl, fun h => absurd h (by decide)⟩
set_option maxRecDepth 20000 in
theorem okm_156 : OKM 156 := ⟨wl_t 1080 rfl rfl, fun h => absurd h (by decide), fun _ => wl_t 1078 rfl rfl, fun _ => wl_t 1079 rfl rfl, fun h => absurd h (by decide)⟩
set_option maxRecDepth 20000 in
theorem okm_157 : OKM 157 := ⟨wl_t 1084 rfl rfl, fun h => absurd h (by decide), fun _ => wl_t 1082 rfl rfl, fun _ => wl_t 1083 rfl rfl, fun h => absurd h (by decide)⟩
set_option maxRecDepth 20000 in
theorem okm_158 : OKM 158 := ⟨wl_t 1112 rfl rfl, fun h => absurd h (by decide), fun _ => wl_t 1111 rfl rfl, fun _ => wl_s 64 rfl rfl, fun h => absurd h (by decide)⟩
set_option maxRecDepth 20000 in
theorem okm_159 : OKM 159 := ⟨wl_t 1104 rfl rfl, fun h => absurd h (by decide), fun _ => wl_t 1103 rfl rfl, fun _ => wl_s 62 rfl rfl, fun h => absurd h (by decide)⟩
set_option maxRecDepth 20000 in
theorem okm_160 : OKM 160 := ⟨wl_t 1120 rfl rfl, fun h => absurd h (by decide), fun _ => wl_t 1119 rfl rfl, fun _ => wl_s 66 rfl rfl, fun h => absurd h (by decide)⟩
set_option maxRecDepth 20000 in
theorem okm_161 : OKM 161 := ⟨wl_t 1100 rfl rfl, fun h => absurd h (by decide), fun _ => wl_t 1099 rfl rfl, fun _ => wl_s 61 rfl rfl, fun h => absurd h (by decide)⟩
set_option maxRecDepth 20000 in
theorem okm_162 : OKM 162 := ⟨wl_t 1088 rfl rfl, fun h => absurd h (by decide), fun _ => wl_t 1086 rfl rfl, fun _ => wl_t 1087 rfl rfl, fun h => absurd h (by decide)⟩
set_option maxRecDepth 20000 in
theorem okm_163 : OKM 163 := ⟨wl_t 1132 rfl rfl, fun h => absurd h (by decide), fun _ => wl_t 1131 rfl rfl, fun _ => wl_s 68 rfl rfl, fun h => absurd h (by decide)⟩
set_option maxRecDepth 20000 in
theorem okm_164 : OKM 164 := ⟨wl_t 1128 rfl rfl, fun h => absurd h (by decide), fun _ => wl_t 1127 rfl rfl, fun _ => wl_s 67 rfl rfl, fun h => absurd h (by decide)⟩
set_option maxRecDepth 20000 in
theorem okm_165 : OKM 165 := ⟨wl_t 1124 rfl rfl, fun h => absurd h (by decide), fun _ => wl_t 1122 rfl rfl, fun _ => wl_t 1123 rfl rfl, fun h => absurd h (by decide)⟩
set_option maxRecDepth 20000 in
theorem okm_166 : OKM 166 := ⟨wl_t 1136 rfl rfl, fun h => absurd h (by decide), fun _ => wl_t 1134 rfl rfl, fun _ => wl_t 1135 rfl rfl, fun h => absurd h (by decide)⟩
set_option maxRecDepth 20000 in
theorem okm_167 : OKM 167 := ⟨wl_t 1144 rfl rfl, fun h => absurd h (by decide), fun _ => wl_t 1143 rfl rfl, fun _ => wl_s 69 rfl rfl, fun h => absurd h (by decide)⟩
set_option maxRecDepth 20000 in
theorem okm_168 : OKM 168 := ⟨wl_t 1140 rfl rfl, fun h => absurd h (by decide), fun _ => wl_t 1138 rfl rfl, fun _ => wl_t 1139 rfl rfl, fun h => absurd h (by decide)⟩
set_option maxRecDepth 20000 in
theorem okm_169 : OKM 169 := ⟨wl_t 1148 rfl rfl, fun h => absurd h (by decide), fun _ => wl_t 1146 rfl rfl, fun _ => wl_t 1147 rfl rfl, fun h => absurd h (by decide)⟩
set_option maxRecDepth 20000 in
theorem okm_170 : OKM 170 := ⟨wl_t 1152 rfl rfl, fun h => absurd h (by decide), fun _ => wl_t 1150 rfl rfl, fun _ => wl_t 1151 rfl rfl, fun h => absurd h (by decide)⟩
set_option maxRecDepth 20000 in
theorem okm_171 : OKM 171 := ⟨wl_t 1161 rfl rfl, fun h => absurd h (by decide), fun _ => wl_t 1160 rfl rfl, fun _ => wl_s 70 rfl rfl, fun h => absurd h (by decide)⟩
set_option maxRecDepth 20000 in
theorem okm_172 : OKM 172 := ⟨wl_t 1165 rfl rfl, fun h => absurd h (by decide), fun _ => wl_t 1164 rfl rfl, fun _ => wl_s 71 rfl rfl, fun h => absurd h (by decide)⟩
set_option maxRecDepth 20000 in
theorem okm_173 : OKM 173 := ⟨wl_t 1157 rfl rfl, fun h => absurd h (by decide), fun _ => wl_t 1155 rfl rfl, fun _ => wl_t 1156 rfl rfl, fun h => absurd h (by decide)⟩
set_option maxRecDepth 20000 in
theorem okm_174 : OKM 174 := ⟨wl_t 1177 rfl rfl, fun h => absurd h (by decide), fun _ => wl_t 1176 rfl rfl, fun _ => wl_s 72 rfl rfl, fun h => absurd h (by decide)⟩
set_option maxRecDepth 20000 in
theorem okm_175 : OKM 175 := ⟨wl_t 1169 rfl rfl, fun h => absurd h (by decide), fun _ => wl_t 1167 rfl rfl, fun _ => wl_t 1168 rfl rfl, fun h => absurd h (by decide)⟩
set_option maxRecDepth 20000 in
theorem okm_176 : OKM 176 := ⟨wl_t 1173 rfl rfl, fun h => absurd h (by decide), fun _ => wl_t 1171 rfl rfl, fun _ => wl_t 1172 rfl rfl, fun h => absurd h (by decide)⟩
set_option maxRecDepth 20000 in
theorem okm_177 : OKM 177 := ⟨wl_t 1181 rfl rfl, fun h => absurd h (by decide), fun _ => wl_t 1179 rfl rfl, fun _ => wl_t 1180 rfl rfl, fun h => absurd h (by decide)⟩
set_option maxRecDepth 20000 in
theorem okm_178 : OKM 178 := ⟨wl_t 1193 rfl rfl, fun h => absurd h (by decide), fun _ => wl_t 1192 rfl rfl, fun _ => wl_s 74 rfl rfl, fun h => absurd h (by decide)⟩
set_option maxRecDepth 20000 in
theorem okm_179 : OKM 179 := ⟨wl_t 1189 rfl rfl, fun h => absurd h (by decide), fun _ => wl_t 1188 rfl rfl, fun _ => wl_s 73 rfl rfl, fun h => absurd h (by decide)⟩
set_option maxRecDepth 20000 in
theorem okm_180 : OKM 180 := ⟨wl_t 1206 rfl rfl, fun h => absurd h (by decide), fun _ => wl_t 1205 rfl rfl, fun _ => wl_s 75 rfl rfl, fun h => absurd h (by decide)⟩
set_option maxRecDepth 20000 in
theorem okm_181 : OKM 181 := ⟨wl_t 1185 rfl rfl, fun h => absurd h (by decide), fun _ => wl_t 1183 rfl rfl, fun _ => wl_t 1184 rfl rfl, fun h => absurd h (by decide)⟩
set_option maxRecDepth 20000 in
theorem okm_182 : OKM 182 := ⟨wl_t 1198 rfl rfl, fun h => absurd h (by decide), fun _ => wl_t 1196 rfl rfl, fun _ => wl_t 1197 rfl rfl, fun h => absurd h (by decide)⟩
set_option maxRecDepth 20000 in
theorem okm_183 : OKM 183 := ⟨wl_t 1202 rfl rfl, fun h => absurd h (by decide), fun _ => wl_t 1200 rfl rfl, fun _ => wl_t 1201 rfl rfl, fun h => absurd h (by decide)⟩
set_option maxRecDepth 20000 in
theorem okm_184 : OKM 184 := ⟨wl_t 1210 rfl rfl, fun h => absurd h (by decide), fun _ => wl_t 1208 rfl rfl, fun _ => wl_t 1209 rfl rfl, fun h => absurd h (by decide)⟩
set_option maxRecDepth 20000 in
theorem okm_185 : OKM 185 := ⟨wl_t 1218 rfl rfl, fun h => absurd h (by decide), fun _ => wl_t 1217 rfl rfl, fun _ => wl_s 76 rfl rfl, fun h => absurd h (by decide)⟩
set_option maxRecDepth 20000 in
theorem okm_186 : OKM 186 := ⟨wl_t 1214 rfl rfl, fun h => absurd h (by decide), fun _ => wl_t 1212 rfl rfl, fun _ => wl_t 1213 rfl rfl, fun h => absurd h (by decide)⟩
set_option maxRecDepth 20000 in
theorem okm_187 : OKM 187 := ⟨wl_t 1222 rfl rfl, fun h => absurd h (by decide), fun _ => wl_t 1220 rfl rfl, fun _ => wl_t 1221 rfl rfl, fun h => absurd h (by decide)⟩
set_option maxRecDepth 20000 in
theorem okm_189 : OKM 189 := ⟨wl_t 356 rfl rfl, fun _ => wl_t 355 rfl rfl, fun h => absurd h (by decide), fun h => absurd h (by decide), fun h => absurd h (by decide)⟩
theorem okm_r0 : ∀ y, 0 ≤ y → y < 16 → y ≠ 188 → OKM y := by
  intro y h1 h2 h3
  have h4 : y = 0 ∨ y = 1 ∨ y = 2 ∨ y = 3 ∨ y = 4 ∨ y = 5 ∨ y = 6 ∨ y = 7 ∨ y = 8 ∨ y = 9 ∨ y = 10 ∨ y = 11 ∨ y = 12 ∨ y = 13 ∨ y = 14 ∨ y = 15 := by omega
  rcases h4 with rfl | rfl | rfl | rfl | rfl | rfl | rfl | rfl | rfl | rfl | rfl | rfl | rfl | rfl | rfl | rfl
  · exact okm_0
  · exact okm_1
  · exact okm_2
  · exact okm_3
  · exact okm_4
  · exact okm_5
  · exact okm_6
  · exact okm_7
  · exact okm_8
  · exact okm_9
  · exact okm_10
  · exact okm_11
  · exact okm_12
  · exact okm_13
  · exact okm_14
  · exact okm_15
theorem okm_r16 : ∀ y, 16 ≤ y → y < 32 → y ≠ 188 → OKM y := by
  intro y h1 h2 h3
  have h4 : y = 16 ∨ y = 17 ∨ y = 18 ∨ y = 19 ∨ y = 20 ∨ y = 21 ∨ y = 22 ∨ y = 23 ∨ y = 24 ∨ y = 25 ∨ y = 26 ∨ y = 27 ∨ y = 28 ∨ y = 29 ∨ y = 30 ∨ y = 31 := by omega
  rcases h4 with rfl | rfl | rfl | rfl | rfl | rfl | rfl | rfl | rfl | rfl | rfl | rfl | rfl | rfl | rfl | rfl
  · exact okm_16
  · exact okm_17
  · exact okm_18
  · exact okm_19
  · exact okm_20
  · exact okm_21
  · exact okm_22
  · exact okm_23
  · exact okm_24
  · exact okm_25
  · exact okm_26
  · exact okm_27
  · exact okm_28
  · exact okm_29
  · exact okm_30
  · exact okm_31
theorem okm_r32 : ∀ y, 32 ≤ y → y < 48 → y ≠ 188 → OKM y := by
  intro y h1 h2 h3
  have h4 : y = 32 ∨ y = 33 ∨ y = 34 ∨ y = 35 ∨ y = 36 ∨ y = 37 ∨ y = 38 ∨ y = 39 ∨ y = 40 ∨ y = 41 ∨ y = 42 ∨ y = 43 ∨ y = 44 ∨ y = 45 ∨ y = 46 ∨ y = 47 := by omega
  rcases h4 with rfl | rfl | rfl | rfl | rfl | rfl | rfl | rfl | rfl | rfl | rfl | rfl | rfl | rfl | rfl | rfl
  · exact okm_32
  · exact okm_33
  · exact okm_34
  · exact okm_35
  · exact okm_36
  · exact okm_37
  · exact okm_38
  · exact okm_39
  · exact okm_40
  · exact okm_41
  · exact okm_42
  · exact okm_43
  · exact okm_44
  · exact okm_45
  · exact okm_46
  · exact okm_47
theorem okm_r48 : ∀ y, 48 ≤ y → y < 64 → y ≠ 188 → OKM y := by
  intro y h1 h2 h3
  have h4 : y = 48 ∨ y = 49 ∨ y = 50 ∨ y = 51 ∨ y = 52 ∨ y = 53 ∨ y = 54 ∨ y = 55 ∨ y = 56 ∨ y = 57 ∨ y = 58 ∨ y = 59 ∨ y = 60 ∨ y = 61 ∨ y = 62 ∨ y = 63 := by omega
  rcases h4 with rfl | rfl | rfl | rfl | rfl | rfl | rfl | rfl | rfl | rfl | rfl | rfl | rfl | rfl | rfl | rfl
  · exact okm_48
  · exact okm_49
  · exact okm_50
  · exact okm_51
  · exact okm_52
  · exact okm_53
  · exact okm_54
  · exact okm_55
  · exact okm_56
  · exact okm_57
  · exact okm_58
  · exact okm_59
  · exact okm_60
  · exact okm_61
  · exact okm_62
  · exact okm_63
theorem okm_r64 : ∀ y, 64 ≤ y → y < 80 → y ≠ 188 → OKM y := by
  intro y h1 h2 h3
  have h4 : y = 64 ∨ y = 65 ∨ y = 66 ∨ y = 67 ∨ y = 68 ∨ y = 69 ∨ y = 70 ∨ y = 71 ∨ y = 72 ∨ y = 73 ∨ y = 74 ∨ y = 75 ∨ y = 76 ∨ y = 77 ∨ y = 78 ∨ y = 79 := by omega
  rcases h4 with rfl | rfl | rfl | rfl | rfl | rfl | rfl | rfl | rfl | rfl | rfl | rfl | rfl | rfl | rfl | rfl
  · exact okm_64
  · exact okm_65
  · exact okm_66
  · exact okm_67
  · exact okm_68
  · exact okm_69
  · exact okm_70
  · exact okm_71
  · exact okm_72
  · exact okm_73
  · exact okm_74
  · exact okm_75
  · exact okm_76
  · exact okm_77
  · exact okm_78
  · exact okm_79
theorem okm_r80 : ∀ y, 80 ≤ y → y < 96 → y ≠ 188 → OKM y := by
  intro y h1 h2 h3
  have h4 : y = 80 ∨ y = 81 ∨ y = 82 ∨ y = 83 ∨ y = 84 ∨ y = 85 ∨ y = 86 ∨ y = 87 ∨ y = 88 ∨ y = 89 ∨ y = 90 ∨ y = 91 ∨ y = 92 ∨ y = 93 ∨ y = 94 ∨ y = 95 := by omega
  rcases h4 with rfl | rfl | rfl | rfl | rfl | rfl | rfl | rfl | rfl | rfl | rfl | rfl | rfl | rfl | rfl | rfl
  · exact okm_80
  · exact okm_81
  · exact okm_82
  · exact okm_83
  · exact okm_84
  · exact okm_85
  · exact okm_86
  · exact okm_87
  · exact okm_88
  · exact okm_89
  · exact okm_90
  · exact okm_91
  · exact okm_92
  · exact okm_93
  · exact okm_94
  · exact okm_95
theorem okm_r96 : ∀ y, 96 ≤ y → y < 112 → y ≠ 188 → OKM y := by
  intro y h1 h2 h3
  have h4 : y = 96 ∨ y = 97 ∨ y = 98 ∨ y = 99 ∨ y = 100 ∨ y = 101 ∨ y = 102 ∨ y = 103 ∨ y = 104 ∨ y = 105 ∨ y = 106 ∨ y = 107 ∨ y = 108 ∨ y = 109 ∨ y = 110 ∨ y = 111 := by omega
  rcases h4 with rfl | rfl | rfl | rfl | rfl | rfl | rfl | rfl | rfl | rfl | rfl | rfl | rfl | rfl | rfl | rfl
  · exact okm_96
  · exact okm_97
  · exact okm_98
  · exact okm_99
  · exact okm_100
  · exact okm_101
  · exact okm_102
  · exact okm_103
  · exact okm_104
  · exact okm_105
  · exact okm_106
  · exact okm_107
  · exact okm_108
  · exact okm_109
  · exact okm_110
  · exact okm_111
theorem okm_r112 : ∀ y, 112 ≤ y → y < 128 → y ≠ 188 → OKM y := by
  intro y h1 h2 h3
  have h4 : y = 112 ∨ y = 113 ∨ y = 114 ∨ y = 115 ∨ y = 116 ∨ y = 117 ∨ y = 118 ∨ y = 119 ∨ y = 120 ∨ y = 121 ∨ y = 122 ∨ y = 123 ∨ y = 124 ∨ y = 125 ∨ y = 126 ∨ y = 127 := by omega
  rcases h4 with rfl | rfl | rfl | rfl | rfl | rfl | rfl | rfl | rfl | rfl | rfl | rfl | rfl | rfl | rfl | rfl
  · exact okm_112
  · exact okm_113
  · exact okm_114
  · exact okm_115
  · exact okm_116
  · exact okm_117
  · exact okm_118
  · exact okm_119
  · exact okm_120
  · exact okm_121
  · exact okm_122
  · exact okm_123
  · exact okm_124
  · exact okm_125
  · exact okm_126
  · exact okm_127
theorem okm_r128 : ∀ y, 128 ≤ y → y < 144 → y ≠ 188 → OKM y := by
  intro y h1 h2 h3
  have h4 : y = 128 ∨ y = 129 ∨ y = 130 ∨ y = 131 ∨ y = 132 ∨ y = 133 ∨ y = 134 ∨ y = 135 ∨ y = 136 ∨ y = 137 ∨ y = 138 ∨ y = 139 ∨ y = 140 ∨ y = 141 ∨ y = 142 ∨ y = 143 := by omega
  rcases h4 with rfl | rfl | rfl | rfl | rfl | rfl | rfl | rfl | rfl | rfl | rfl | rfl | rfl | rfl | rfl | rfl
  · exact okm_128
  · exact okm_129
  · exact okm_130
  · exact okm_131
  · exact okm_132
  · exact okm_133
  · exact okm_134
  · exact okm_135
  · exact okm_136
  · exact okm_137
  · exact okm_138
  · exact okm_139
  · exact okm_140
  · exact okm_141
  · exact okm_142
  · exact okm_143
theorem okm_r144 : ∀ y, 144 ≤ y → y < 160 → y ≠ 188 → OKM y := by
  intro y h1 h2 h3
  have h4 : y = 144 ∨ y = 145 ∨ y = 146 ∨ y = 147 ∨ y = 148 ∨ y = 149 ∨ y = 150 ∨ y = 151 ∨ y = 152 ∨ y = 153 ∨ y = 154 ∨ y = 155 ∨ y = 156 ∨ y = 157 ∨ y = 158 ∨ y = 159 := by omega
  rcases h4 with rfl | rfl | rfl | rfl | rfl | rfl | rfl | rfl | rfl | rfl | rfl | rfl | rfl | rfl | rfl | rfl
  · exact okm_144
  · exact okm_145
  · exact okm_146
  · exact okm_147
  · exact okm_148
  · exact okm_149
  · exact okm_150
  · exact okm_151
  · exact okm_152
  · exact okm_153
  · exact okm_154
  · exact okm_155
  · exact okm_156
  · exact okm_157
  · exact okm_158
  · exact okm_159
theorem okm_r160 : ∀ y, 160 ≤ y → y < 176 → y ≠ 188 → OKM y := by
  intro y h1 h2 h3
  have h4 : y = 160 ∨ y = 161 ∨ y = 162 ∨ y = 163 ∨ y = 164 ∨ y = 165 ∨ y = 166 ∨ y = 167 ∨ y = 168 ∨ y = 169 ∨ y = 170 ∨ y = 171 ∨ y = 172 ∨ y = 173 ∨ y = 174 ∨ y = 175 := by omega
  rcases h4 with rfl | rfl | rfl | rfl | rfl | rfl | rfl | rfl | rfl | rfl | rfl | rfl | rfl | rfl | rfl | rfl
  · exact okm_160
  · exact okm_161
  · exact okm_162
  · exact okm_163
  · exact okm_164
  · exact okm_165
  · exact okm_166
  · exact okm_167
  · exact okm_168
  · exact okm_169
  · exact okm_170
  · exact okm_171
  · exact okm_172
  · exact okm_173
  · exact okm_174
  · exact okm_175
theorem okm_r176 : ∀ y, 176 ≤ y → y < 190 → y ≠ 188 → OKM y := by
  intro y h1 h2 h3
  have h4 : y = 176 ∨ y = 177 ∨ y = 178 ∨ y = 179 ∨ y = 180 ∨ y = 181 ∨ y = 182 ∨ y = 183 ∨ y = 184 ∨ y = 185 ∨ y = 186 ∨ y = 187 ∨ y = 188 ∨ y = 189 := by omega
  rcases h4 with rfl | rfl | rfl | rfl | rfl | rfl | rfl | rfl | rfl | rfl | rfl | rfl | rfl | rfl
  · exact okm_176
  · exact okm_177
  · exact okm_178
  · exact okm_179
  · exact okm_180
  · exact okm_181
  · exact okm_182
  · exact okm_183
  · exact okm_184
  · exact okm_185
  · exact okm_186
  · exact okm_187
  · exact absurd rfl h3
  · exact okm_189
theorem okm : ∀ y, y < 190 → y ≠ 188 → OKM y := by
  intro y hy h
  by_cases h0 : y < 16
  · exact okm_r0 y (by omega) h0 h
  by_cases h16 : y < 32
  · exact okm_r16 y (by omega) h16 h
  by_cases h32 : y < 48
  · exact okm_r32 y (by omega) h32 h
  by_cases h48 : y < 64
  · exact okm_r48 y (by omega) h48 h
  by_cases h64 : y < 80
  · exact okm_r64 y (by omega) h64 h
  by_cases h80 : y < 96
  · exact okm_r80 y (by omega) h80 h
  by_cases h96 : y < 112
  · exact okm_r96 y (by omega) h96 h
  by_cases h112 : y < 128
  · exact okm_r112 y (by omega) h112 h
  by_cases h128 : y < 144
  · exact okm_r128 y (by omega) h128 h
  by_cases h144 : y < 160
  · exact okm_r144 y (by omega) h144 h
  by_cases h160 : y < 176
  · exact okm_r160 y (by omega) h160 h
  by_cases h176 : y < 190
  · exact okm_r176 y (by omega) h176 h
  omega
