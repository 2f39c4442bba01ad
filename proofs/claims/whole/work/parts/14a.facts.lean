/-! what the shape says of fixed cells; written by pp.py -/
theorem Shp.mr1 {M : Mem} (h : Shp M) : mR M 521 1 = some 522 := (h.r (by unfold dyn; omega) 1).trans rfl
theorem Shp.mr2 {M : Mem} (h : Shp M) : mR M 521 2 = some 523 := (h.r (by unfold dyn; omega) 2).trans rfl
theorem Shp.mr3 {M : Mem} (h : Shp M) : mR M 521 3 = some 524 := (h.r (by unfold dyn; omega) 3).trans rfl
theorem Shp.mr4 {M : Mem} (h : Shp M) : mR M 521 4 = some 525 := (h.r (by unfold dyn; omega) 4).trans rfl
theorem Shp.mr5 {M : Mem} (h : Shp M) : mR M 521 5 = some 526 := (h.r (by unfold dyn; omega) 5).trans rfl
theorem Shp.mr14 {M : Mem} (h : Shp M) : mR M 521 14 = some 527 := (h.r (by unfold dyn; omega) 14).trans rfl
theorem Shp.mr15 {M : Mem} (h : Shp M) : mR M 521 15 = some 528 := (h.r (by unfold dyn; omega) 15).trans rfl
theorem Shp.mr16 {M : Mem} (h : Shp M) : mR M 521 16 = some 529 := (h.r (by unfold dyn; omega) 16).trans rfl
theorem Shp.mr18 {M : Mem} (h : Shp M) : mR M 521 18 = some 530 := (h.r (by unfold dyn; omega) 18).trans rfl
theorem Shp.mr19 {M : Mem} (h : Shp M) : mR M 521 19 = some 531 := (h.r (by unfold dyn; omega) 19).trans rfl
theorem Shp.mr20 {M : Mem} (h : Shp M) : mR M 521 20 = some 532 := (h.r (by unfold dyn; omega) 20).trans rfl
theorem Shp.mr21 {M : Mem} (h : Shp M) : mR M 521 21 = some 533 := (h.r (by unfold dyn; omega) 21).trans rfl
theorem Shp.mr22 {M : Mem} (h : Shp M) : mR M 521 22 = some 534 := (h.r (by unfold dyn; omega) 22).trans rfl
theorem Shp.mr23 {M : Mem} (h : Shp M) : mR M 521 23 = some 535 := (h.r (by unfold dyn; omega) 23).trans rfl
theorem Shp.mk521 {M : Mem} (h : Shp M) : mK M 521 = 8 := (h.k 521).trans rfl
theorem Shp.mk522 {M : Mem} (h : Shp M) : mK M 522 = 20 := (h.k 522).trans rfl
theorem Shp.mn522 {M : Mem} (h : Shp M) : mN M 522 = 3960 := (h.n (show 522 < 1000000 by omega)).trans rfl
theorem Shp.mk523 {M : Mem} (h : Shp M) : mK M 523 = 20 := (h.k 523).trans rfl
theorem Shp.mn523 {M : Mem} (h : Shp M) : mN M 523 = 132 := (h.n (show 523 < 1000000 by omega)).trans rfl
theorem Shp.mk524 {M : Mem} (h : Shp M) : mK M 524 = 20 := (h.k 524).trans rfl
theorem Shp.mn524 {M : Mem} (h : Shp M) : mN M 524 = 8 := (h.n (show 524 < 1000000 by omega)).trans rfl
theorem Shp.mk525 {M : Mem} (h : Shp M) : mK M 525 = 20 := (h.k 525).trans rfl
theorem Shp.mn525 {M : Mem} (h : Shp M) : mN M 525 = 240 := (h.n (show 525 < 1000000 by omega)).trans rfl
theorem Shp.mk526 {M : Mem} (h : Shp M) : mK M 526 = 20 := (h.k 526).trans rfl
theorem Shp.mn526 {M : Mem} (h : Shp M) : mN M 526 = 8 := (h.n (show 526 < 1000000 by omega)).trans rfl
theorem Shp.mk527 {M : Mem} (h : Shp M) : mK M 527 = 20 := (h.k 527).trans rfl
theorem Shp.mn527 {M : Mem} (h : Shp M) : mN M 527 = 25 := (h.n (show 527 < 1000000 by omega)).trans rfl
theorem Shp.mk528 {M : Mem} (h : Shp M) : mK M 528 = 20 := (h.k 528).trans rfl
theorem Shp.mn528 {M : Mem} (h : Shp M) : mN M 528 = 30 := (h.n (show 528 < 1000000 by omega)).trans rfl
theorem Shp.mk529 {M : Mem} (h : Shp M) : mK M 529 = 20 := (h.k 529).trans rfl
theorem Shp.mn529 {M : Mem} (h : Shp M) : mN M 529 = 25 := (h.n (show 529 < 1000000 by omega)).trans rfl
theorem Shp.mk530 {M : Mem} (h : Shp M) : mK M 530 = 20 := (h.k 530).trans rfl
theorem Shp.mn530 {M : Mem} (h : Shp M) : mN M 530 = 400 := (h.n (show 530 < 1000000 by omega)).trans rfl
theorem Shp.mk531 {M : Mem} (h : Shp M) : mK M 531 = 21 := (h.k 531).trans rfl
theorem Shp.mn531 {M : Mem} (h : Shp M) : mN M 531 = 4 := (h.n (show 531 < 1000000 by omega)).trans rfl
theorem Shp.mk532 {M : Mem} (h : Shp M) : mK M 532 = 20 := (h.k 532).trans rfl
theorem Shp.mn532 {M : Mem} (h : Shp M) : mN M 532 = 4 := (h.n (show 532 < 1000000 by omega)).trans rfl
theorem Shp.mk533 {M : Mem} (h : Shp M) : mK M 533 = 20 := (h.k 533).trans rfl
theorem Shp.mn533 {M : Mem} (h : Shp M) : mN M 533 = 4 := (h.n (show 533 < 1000000 by omega)).trans rfl
theorem Shp.mk534 {M : Mem} (h : Shp M) : mK M 534 = 20 := (h.k 534).trans rfl
theorem Shp.mn534 {M : Mem} (h : Shp M) : mN M 534 = 240 := (h.n (show 534 < 1000000 by omega)).trans rfl
theorem Shp.mk535 {M : Mem} (h : Shp M) : mK M 535 = 20 := (h.k 535).trans rfl
theorem Shp.mn535 {M : Mem} (h : Shp M) : mN M 535 = 60 := (h.n (show 535 < 1000000 by omega)).trans rfl
theorem Shp.xr0 {M : Mem} (h : Shp M) : mR M 0 0 = some 1 := (h.r (by unfold dyn; omega) 0).trans rfl
theorem Shp.xr1 {M : Mem} (h : Shp M) : mR M 0 1 = some 2 := (h.r (by unfold dyn; omega) 1).trans rfl
theorem Shp.xr2 {M : Mem} (h : Shp M) : mR M 0 2 = some 3 := (h.r (by unfold dyn; omega) 2).trans rfl
theorem Shp.xr5 {M : Mem} (h : Shp M) : mR M 0 5 = some 361 := (h.r (by unfold dyn; omega) 5).trans rfl
theorem Shp.xr6 {M : Mem} (h : Shp M) : mR M 0 6 = some 441 := (h.r (by unfold dyn; omega) 6).trans rfl
theorem Shp.xr7 {M : Mem} (h : Shp M) : mR M 0 7 = some 4 := (h.r (by unfold dyn; omega) 7).trans rfl
theorem Shp.xr9 {M : Mem} (h : Shp M) : mR M 0 9 = some 7 := (h.r (by unfold dyn; omega) 9).trans rfl
theorem Shp.xr11 {M : Mem} (h : Shp M) : mR M 0 11 = some 10 := (h.r (by unfold dyn; omega) 11).trans rfl
theorem Shp.xr12 {M : Mem} (h : Shp M) : mR M 0 12 = some 11 := (h.r (by unfold dyn; omega) 12).trans rfl
theorem Shp.xr13 {M : Mem} (h : Shp M) : mR M 0 13 = some 13 := (h.r (by unfold dyn; omega) 13).trans rfl
theorem Shp.xk0 {M : Mem} (h : Shp M) : mK M 0 = 0 := (h.k 0).trans rfl
theorem Shp.xn0 {M : Mem} (h : Shp M) : mN M 0 = 15 := (h.n (show 0 < 1000000 by omega)).trans rfl
theorem Shp.xk1 {M : Mem} (h : Shp M) : mK M 1 = 31 := (h.k 1).trans rfl
theorem Shp.xn1 {M : Mem} (h : Shp M) : mN M 1 = 8 := (h.n (show 1 < 1000000 by omega)).trans rfl
theorem Shp.xk2 {M : Mem} (h : Shp M) : mK M 2 = 32 := (h.k 2).trans rfl
theorem Shp.xn2 {M : Mem} (h : Shp M) : mN M 2 = 7 := (h.n (show 2 < 1000000 by omega)).trans rfl
theorem Shp.xk3 {M : Mem} (h : Shp M) : mK M 3 = 3 := (h.k 3).trans rfl
theorem Shp.xn3 {M : Mem} (h : Shp M) : mN M 3 = 5 := (h.n (show 3 < 1000000 by omega)).trans rfl
theorem Shp.xk4 {M : Mem} (h : Shp M) : mK M 4 = 2 := (h.k 4).trans rfl
theorem Shp.xn4 {M : Mem} (h : Shp M) : mN M 4 = 5 := (h.n (show 4 < 1000000 by omega)).trans rfl
theorem Shp.xk7 {M : Mem} (h : Shp M) : mK M 7 = 2 := (h.k 7).trans rfl
theorem Shp.xn7 {M : Mem} (h : Shp M) : mN M 7 = 5 := (h.n (show 7 < 1000000 by omega)).trans rfl
theorem Shp.xk10 {M : Mem} (h : Shp M) : mK M 10 = 20 := (h.k 10).trans rfl
theorem Shp.xn10 {M : Mem} (h : Shp M) : mN M 10 = 12 := (h.n (show 10 < 1000000 by omega)).trans rfl
theorem Shp.xk11 {M : Mem} (h : Shp M) : mK M 11 = 6 := (h.k 11).trans rfl
theorem Shp.xn11 {M : Mem} (h : Shp M) : mN M 11 = 2 := (h.n (show 11 < 1000000 by omega)).trans rfl
theorem Shp.xk12 {M : Mem} (h : Shp M) : mK M 12 = 20 := (h.k 12).trans rfl
theorem Shp.xn12 {M : Mem} (h : Shp M) : mN M 12 = 360 := (h.n (show 12 < 1000000 by omega)).trans rfl
theorem Shp.xk13 {M : Mem} (h : Shp M) : mK M 13 = 37 := (h.k 13).trans rfl
theorem Shp.xn13 {M : Mem} (h : Shp M) : mN M 13 = 4 := (h.n (show 13 < 1000000 by omega)).trans rfl
theorem Shp.xk59 {M : Mem} (h : Shp M) : mK M 59 = 4 := (h.k 59).trans rfl
theorem Shp.xn59 {M : Mem} (h : Shp M) : mN M 59 = 2 := (h.n (show 59 < 1000000 by omega)).trans rfl
theorem Shp.xk60 {M : Mem} (h : Shp M) : mK M 60 = 32 := (h.k 60).trans rfl
theorem Shp.xn60 {M : Mem} (h : Shp M) : mN M 60 = 100 := (h.n (show 60 < 1000000 by omega)).trans rfl
theorem Shp.xk361 {M : Mem} (h : Shp M) : mK M 361 = 5 := (h.k 361).trans rfl
theorem Shp.xn361 {M : Mem} (h : Shp M) : mN M 361 = 8 := (h.n (show 361 < 1000000 by omega)).trans rfl
theorem Shp.xk362 {M : Mem} (h : Shp M) : mK M 362 = 4 := (h.k 362).trans rfl
theorem Shp.xn362 {M : Mem} (h : Shp M) : mN M 362 = 2 := (h.n (show 362 < 1000000 by omega)).trans rfl
theorem Shp.xk363 {M : Mem} (h : Shp M) : mK M 363 = 32 := (h.k 363).trans rfl
theorem Shp.xn363 {M : Mem} (h : Shp M) : mN M 363 = 24 := (h.n (show 363 < 1000000 by omega)).trans rfl
theorem Shp.xk441 {M : Mem} (h : Shp M) : mK M 441 = 5 := (h.k 441).trans rfl
theorem Shp.xn441 {M : Mem} (h : Shp M) : mN M 441 = 8 := (h.n (show 441 < 1000000 by omega)).trans rfl
theorem Shp.xk442 {M : Mem} (h : Shp M) : mK M 442 = 4 := (h.k 442).trans rfl
theorem Shp.xn442 {M : Mem} (h : Shp M) : mN M 442 = 2 := (h.n (show 442 < 1000000 by omega)).trans rfl
theorem Shp.xk443 {M : Mem} (h : Shp M) : mK M 443 = 32 := (h.k 443).trans rfl
theorem Shp.xn443 {M : Mem} (h : Shp M) : mN M 443 = 24 := (h.n (show 443 < 1000000 by omega)).trans rfl
theorem Shp.xk436 {M : Mem} (h : Shp M) : mK M 436 = 2 := (h.k 436).trans rfl
theorem Shp.xn436 {M : Mem} (h : Shp M) : mN M 436 = 5 := (h.n (show 436 < 1000000 by omega)).trans rfl
theorem Shp.xk516 {M : Mem} (h : Shp M) : mK M 516 = 2 := (h.k 516).trans rfl
theorem Shp.xn516 {M : Mem} (h : Shp M) : mN M 516 = 5 := (h.n (show 516 < 1000000 by omega)).trans rfl
theorem Shp.xk439 {M : Mem} (h : Shp M) : mK M 439 = 20 := (h.k 439).trans rfl
theorem Shp.xn439 {M : Mem} (h : Shp M) : mN M 439 = 60 := (h.n (show 439 < 1000000 by omega)).trans rfl
theorem Shp.xk440 {M : Mem} (h : Shp M) : mK M 440 = 20 := (h.k 440).trans rfl
theorem Shp.xn440 {M : Mem} (h : Shp M) : mN M 440 = 60 := (h.n (show 440 < 1000000 by omega)).trans rfl
theorem Shp.xk519 {M : Mem} (h : Shp M) : mK M 519 = 20 := (h.k 519).trans rfl
theorem Shp.xn519 {M : Mem} (h : Shp M) : mN M 519 = 60 := (h.n (show 519 < 1000000 by omega)).trans rfl
theorem Shp.xk520 {M : Mem} (h : Shp M) : mK M 520 = 20 := (h.k 520).trans rfl
theorem Shp.xn520 {M : Mem} (h : Shp M) : mN M 520 = 60 := (h.n (show 520 < 1000000 by omega)).trans rfl
theorem Shp.xs59_0 {M : Mem} (h : Shp M) : mR M 59 0 = some 60 := (h.r (by unfold dyn; omega) 0).trans rfl
theorem Shp.xs11_0 {M : Mem} (h : Shp M) : mR M 11 0 = some 12 := (h.r (by unfold dyn; omega) 0).trans rfl
theorem Shp.xs361_0 {M : Mem} (h : Shp M) : mR M 361 0 = some 362 := (h.r (by unfold dyn; omega) 0).trans rfl
theorem Shp.xs361_3 {M : Mem} (h : Shp M) : mR M 361 3 = some 59 := (h.r (by unfold dyn; omega) 3).trans rfl
theorem Shp.xs361_5 {M : Mem} (h : Shp M) : mR M 361 5 = some 436 := (h.r (by unfold dyn; omega) 5).trans rfl
theorem Shp.xs361_6 {M : Mem} (h : Shp M) : mR M 361 6 = some 439 := (h.r (by unfold dyn; omega) 6).trans rfl
theorem Shp.xs361_7 {M : Mem} (h : Shp M) : mR M 361 7 = some 440 := (h.r (by unfold dyn; omega) 7).trans rfl
theorem Shp.xs441_0 {M : Mem} (h : Shp M) : mR M 441 0 = some 442 := (h.r (by unfold dyn; omega) 0).trans rfl
theorem Shp.xs441_3 {M : Mem} (h : Shp M) : mR M 441 3 = some 59 := (h.r (by unfold dyn; omega) 3).trans rfl
theorem Shp.xs441_5 {M : Mem} (h : Shp M) : mR M 441 5 = some 516 := (h.r (by unfold dyn; omega) 5).trans rfl
theorem Shp.xs441_6 {M : Mem} (h : Shp M) : mR M 441 6 = some 519 := (h.r (by unfold dyn; omega) 6).trans rfl
theorem Shp.xs441_7 {M : Mem} (h : Shp M) : mR M 441 7 = some 520 := (h.r (by unfold dyn; omega) 7).trans rfl
theorem Shp.xs362_0 {M : Mem} (h : Shp M) : mR M 362 0 = some 363 := (h.r (by unfold dyn; omega) 0).trans rfl
theorem Shp.xs442_0 {M : Mem} (h : Shp M) : mR M 442 0 = some 443 := (h.r (by unfold dyn; omega) 0).trans rfl
